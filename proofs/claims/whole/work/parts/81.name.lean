/-! PURE: name, at both sides -/
def bestO (Q : Nat → Bool) (v : Nat → Int32) (i : Nat) (s : Int32 × Option Nat) : Int32 × Option Nat := if Q i = true then (if v i ≤ s.1 then s else (v i, some i)) else s
def finO (k : Int32) (s : Int32 × Option Nat) : Int32 := s.2.elim (-4) (fun i => if k = 0 then nI i else s.1)
def nameV (p n : Nat) (κ : aK) (i : Nat) : Int32 := (daysK n (kset κ 4 i (nI p))).2.2 5 p
def freeB (κ : aK) (i : Nat) : Bool := bitB (κ.2.1 1) (nI i) && decide (κ.2.2 4 i = -4)
def nameK (x n k : Int32) (κ : aK) : Int32 := if inR x 0 4 = true then (if inR n 0 30 = true then (if inR k 0 1 = true then finO k (itr (bestO (freeB κ) (nameV (ix x) (ix n) κ)) 0 9 ((daysK (ix n) κ).2.2 5 (ix x), none)) else -1) else -1) else -1
theorem o4_lt {o : Option Nat} (h : ∀ i, o = some i → i < 2 ^ 31) : (o4 o < 0) = (o = none) := by
  cases o with
  | none => exact propext ⟨fun _ => rfl, fun _ => m4_lt⟩
  | some i => exact propext ⟨fun z => absurd z (nI_nlt0 (h i rfl)), fun z => by cases z⟩
theorem o4_eq {o : Option Nat} (h : ∀ i, o = some i → i < 2 ^ 31) : (o4 o = -4) = (o = none) := by
  cases o with
  | none => exact propext ⟨fun _ => rfl, fun _ => rfl⟩
  | some i => exact propext ⟨fun z => absurd z (nI_ne4 (h i rfl)), fun z => by cases z⟩
theorem loop5_s {α0 α1 α2 α3 β : Type} (B : (α0 → α1 → α2 → α3 → aW → Option β) → α0 → α1 → α2 → α3 → aW → Option β) (n : Nat) : loop5 B (n + 1) = B (loop5 B n) := rfl
theorem nameX (w : aW) {X : aX} (hW : WF X.1) {p m : Nat} (hp : p < 5) (hm : m < 1000) (k : Int32) : ∀ (c i : Nat) (s : Int32 × Option Nat) (μ : aK) (n : Nat), i + c = 9 → c < n → (∀ z, s.2 = some z → z < 9) →
    ∃ μ', loop5 (c_X3_name_56 0 (nI p) (nI m) k) n s.1 (o4 s.2) (freeK X.1) (nI i) (putX w (xmind X μ)) = some (finO k (itr (bestO (freeB X.1) (nameV p m X.1)) i c s), putX w (xmind X μ'))
  | 0, i, s, μ, n + 1, hc, _, hz => by
    have : i = 9 := by omega
    subst this
    refine ⟨μ, ?_⟩
    rw [loop5_s]
    simp only [c_X3_name_56, show (9 : Int32) ≤ nI 9 by decide, o4_eq (o := s.2) (fun i h => by have := hz i h; omega), if_true, if_false, not_true_eq_false, not_false_eq_true, Bool.false_eq_true, Bool.true_eq_false, reduceIte, ite_true, ite_false]
    show _ = some (finO k s, _)
    obtain ⟨a, o⟩ := s
    cases o with
    | none => rfl
    | some z => unfold finO o4; by_cases h : k = 0 <;> simp [h]
  | c + 1, i, s, μ, n + 1, hc, hn, hz => by
    rw [loop5_s]
    show ∃ μ', _ = some (finO k (itr _ (i + 1) c (bestO (freeB X.1) (nameV p m X.1) i s)), _)
    have hi : i < 9 := by omega
    by_cases hQ : freeB X.1 i = true
    · have hb : bitB (freeK X.1) (nI i) = true := by rw [bit_free hi]; exact hQ
      have him : i < X.1.1 := hW.many hi (by unfold freeB at hQ; rw [Bool.and_eq_true] at hQ; exact hQ.1)
      have hWc : WF (kset X.1 4 i (nI p)) := hW.caller (Or.inr ⟨him, p, hp, rfl⟩)
      have hs := T_sA w (xmind X X.1) 4 (by decide) (i := i) hi (nI p)
      simp only [Nat.reduceAdd] at hs
      by_cases hv : nameV p m X.1 i ≤ s.1
      · obtain ⟨μ', h'⟩ := nameX w hW hp hm k c (i + 1) s (daysK m (kset X.1 4 i (nI p))) n (by omega) (by omega) hz
        refine ⟨μ', ?_⟩
        rw [show bestO (freeB X.1) (nameV p m X.1) i s = s by unfold bestO; rw [if_pos hQ, if_pos hv]]
        have hv' : (daysK m (kset X.1 4 i (nI p))).2.2 5 p ≤ s.1 := hv
        simp only [c_X3_name_56, le_9 hi, p_has, hb, gR_X0, gR_X1, gR_X2, gI_X3, gR_X4, gR_X5, gR_X6, cV_X, x_think, xmind_1, xmind_0, xmind_2, xnow_0, xnow_1, xnow_2, bk_some, bind_some', zb_0, zb_1, zb_or, cc_or, T_cV, T_gI0, T_gI1, T_gI2, T_gI3, T_gR4, T_gR5, T_gR6, T_gR7, T_gR8, T_gR9, T_gR10, T_gR11, T_gR12, T_hasBeast, T_isAlive, T_calledBy, T_calledByAnybody, T_needTogether, T_workTogether, T_freeOnes, hs, x_meansBehind w X hWc hp hm, hv', nI_1, if_true, if_false, not_true_eq_false, not_false_eq_true, Bool.false_eq_true, Bool.true_eq_false, reduceIte, ite_true, ite_false]
        exact h'
      · obtain ⟨μ', h'⟩ := nameX w hW hp hm k c (i + 1) (nameV p m X.1 i, some i) (daysK m (kset X.1 4 i (nI p))) n (by omega) (by omega) (fun z h => by cases h; exact hi)
        refine ⟨μ', ?_⟩
        rw [show bestO (freeB X.1) (nameV p m X.1) i s = (nameV p m X.1 i, some i) by unfold bestO; rw [if_pos hQ, if_neg hv]]
        have hv' : ¬ (daysK m (kset X.1 4 i (nI p))).2.2 5 p ≤ s.1 := hv
        simp only [c_X3_name_56, le_9 hi, p_has, hb, gR_X0, gR_X1, gR_X2, gI_X3, gR_X4, gR_X5, gR_X6, cV_X, x_think, xmind_1, xmind_0, xmind_2, xnow_0, xnow_1, xnow_2, bk_some, bind_some', zb_0, zb_1, zb_or, cc_or, T_cV, T_gI0, T_gI1, T_gI2, T_gI3, T_gR4, T_gR5, T_gR6, T_gR7, T_gR8, T_gR9, T_gR10, T_gR11, T_gR12, T_hasBeast, T_isAlive, T_calledBy, T_calledByAnybody, T_needTogether, T_workTogether, T_freeOnes, hs, x_meansBehind w X hWc hp hm, hv', nI_1, if_true, if_false, not_true_eq_false, not_false_eq_true, Bool.false_eq_true, Bool.true_eq_false, reduceIte, ite_true, ite_false]
        exact h'
    · have hb : bitB (freeK X.1) (nI i) = false := by rw [bit_free hi]; exact Bool.eq_false_iff.mpr hQ
      obtain ⟨μ', h'⟩ := nameX w hW hp hm k c (i + 1) s μ n (by omega) (by omega) hz
      refine ⟨μ', ?_⟩
      rw [show bestO (freeB X.1) (nameV p m X.1) i s = s by unfold bestO; rw [if_neg hQ]]
      simp only [c_X3_name_56, le_9 hi, p_has, hb, bk_some, zb_0, nI_1, if_true, if_false, not_true_eq_false, not_false_eq_true, Bool.false_eq_true, Bool.true_eq_false, reduceIte, ite_true, ite_false]
      exact h'
theorem name_in {x : Int32} (h : inR x 0 30 = true) : ∃ n, n ≤ 30 ∧ x = nI n := inR_nI (n := 30) (by decide) h
theorem x_name (w : aW) {X : aX} (hW : WF X.1) (x n k : Int32) : ∃ μ, f_X3_name 0 x n k (putX w X) = some (nameK x n k X.1, putX w (xmind X μ)) := by
  unfold f_X3_name nameK
  by_cases h1 : inR x 0 4 = true
  · by_cases h2 : inR n 0 30 = true
    · by_cases h3 : inR k 0 1 = true
      · obtain ⟨p, hp, hx⟩ := inP h1
        obtain ⟨m, hm, hn⟩ := name_in h2
        subst hx hn
        obtain ⟨μ, hμ⟩ := nameX w hW hp (show m < 1000 by omega) k 9 0 ((daysK m X.1).2.2 5 p, none) (daysK m X.1) a_fuel rfl (by decide) (fun z h => by cases h)
        refine ⟨μ, ?_⟩
        simp only [h1, h2, h3, p_isPerson, p_within, gR_X0, gR_X1, gR_X2, gI_X3, gR_X4, gR_X5, gR_X6, cV_X, x_think, xmind_1, xmind_0, xmind_2, xnow_0, xnow_1, xnow_2, bk_some, bind_some', zb_0, zb_1, zb_or, cc_or, N_cV, N_gI0, N_gI1, N_gI2, N_gI3, N_gR4, N_gR5, N_gR6, N_gR7, N_gR8, N_gR9, N_gR10, N_gR11, N_gR12, N_hasBeast, N_isAlive, N_calledBy, N_calledByAnybody, N_needTogether, N_workTogether, N_freeOnes, x_meansBehind w X hW hp (show m < 1000 by omega), ix_nI (show p < 2 ^ 31 by omega), ix_nI (show m < 2 ^ 31 by omega), if_true, if_false, not_true_eq_false, not_false_eq_true, Bool.false_eq_true, Bool.true_eq_false, reduceIte, ite_true, ite_false]
        exact hμ
      · have h3 := Bool.eq_false_iff.mpr h3
        exact ⟨X.2.1, by simp only [h1, h2, h3, gR_X0, gR_X1, gR_X2, gI_X3, gR_X4, gR_X5, gR_X6, cV_X, x_think, xmind_1, xmind_0, xmind_2, xnow_0, xnow_1, xnow_2, bk_some, bind_some', zb_0, zb_1, zb_or, cc_or, p_isPerson, p_within, if_true, if_false, not_true_eq_false, not_false_eq_true, Bool.false_eq_true, Bool.true_eq_false, reduceIte, ite_true, ite_false]; rfl⟩
    · have h2 := Bool.eq_false_iff.mpr h2
      exact ⟨X.2.1, by simp only [h1, h2, gR_X0, gR_X1, gR_X2, gI_X3, gR_X4, gR_X5, gR_X6, cV_X, x_think, xmind_1, xmind_0, xmind_2, xnow_0, xnow_1, xnow_2, bk_some, bind_some', zb_0, zb_1, zb_or, cc_or, p_isPerson, p_within, if_true, if_false, not_true_eq_false, not_false_eq_true, Bool.false_eq_true, Bool.true_eq_false, reduceIte, ite_true, ite_false]; rfl⟩
  · have h1 := Bool.eq_false_iff.mpr h1
    exact ⟨X.2.1, by simp only [h1, gR_X0, gR_X1, gR_X2, gI_X3, gR_X4, gR_X5, gR_X6, cV_X, x_think, xmind_1, xmind_0, xmind_2, xnow_0, xnow_1, xnow_2, bk_some, bind_some', zb_0, zb_1, zb_or, cc_or, p_isPerson, p_within, if_true, if_false, not_true_eq_false, not_false_eq_true, Bool.false_eq_true, Bool.true_eq_false, reduceIte, ite_true, ite_false]; rfl⟩
theorem nameY (w : aW) {κ : aK} (hW : WF κ) {p m : Nat} (hp : p < 5) (hm : m < 1000) (k : Int32) : ∀ (c i : Nat) (s : Int32 × Option Nat) (Y : aY) (n : Nat), i + c = κ.1 → c < n → (∀ z, s.2 = some z → z < 9) → Y.1 0 = 0 → Kept Y 8 κ →
    ∃ Y', Yk Y Y' ∧ loop4 (c_X4_name_55 50 (nI p) (nI m) k) n (o4 s.2) s.1 (nI i) (putY w κ Y) = some (finO k (itr (bestO (freeB κ) (nameV p m κ)) i c s), putY w κ Y')
  | 0, i, s, Y, n + 1, hc, _, hz, _, _ => by
    have : i = κ.1 := by omega
    subst this
    refine ⟨Y, Yk.refl Y, ?_⟩
    rw [loop4_s]
    simp only [c_X4_name_55, gI_Y0, gR_Y1, gR_Y2, gR_Y3, gR_Y4, gR_Y5, gI_Y6, gR_Y7, gR_Y8, gR_Y9, gR_Y10, gI_Y11, gI_Y12, gR_Y13, gR_Y14, gR_Y15, gR_Y16, gR_Y17, gR_Y18, gI_Y19, gI_Y20, gI_Y21, gI_Y22, gI_Y23, gR_Y24, gR_Y25, gR_Y26, gR_Y27, gR_Y28, gI_Y29, gI_Y30, gI_Y31, gR_Y33, gR_Y34, gI_Y35, gR_Y36, cV_Y, bk_some, bind_some', zb_0, zb_1, zb_or, cc_or, kset_1, kset_21, kint_1, kint_21, kint_22, putY_moved, Int32.le_refl, o4_lt (o := s.2) (fun i h => by have := hz i h; omega), if_true, if_false, not_true_eq_false, not_false_eq_true, Bool.false_eq_true, Bool.true_eq_false, reduceIte, ite_true, ite_false]
    show _ = some (finO k s, _)
    obtain ⟨a, o⟩ := s
    cases o with
    | none => rfl
    | some z => unfold finO o4; by_cases h : k = 0 <;> simp [h]
  | c + 1, i, s, Y, n + 1, hc, hn, hz, h0, hK => by
    have hk9 := hW.1
    have him : i < κ.1 := by omega
    have hi : i < 9 := by omega
    rw [loop4_s]
    show ∃ Y', Yk Y Y' ∧ _ = some (finO k (itr _ (i + 1) c (bestO (freeB κ) (nameV p m κ) i s)), _)
    have hfr : f_X4_isFree 50 (nI i) (putY w κ Y) = some (zb (freeB κ i), putY w κ Y) := m_isFree w Y hW him
    by_cases hQ : freeB κ i = true
    · have hWc : WF (kset κ 4 i (nI p)) := hW.caller (Or.inr ⟨him, p, hp, rfl⟩)
      obtain ⟨Y1, e1, hK1, hmt⟩ := m_meansThen w hk9 Y hWc h0 hK hp hm
      by_cases hv : nameV p m κ i ≤ s.1
      · obtain ⟨Y', e', h'⟩ := nameY w hW hp hm k c (i + 1) s Y1 n (by omega) (by omega) hz (e1.1.1.trans h0) hK1
        refine ⟨Y', e1.trans e', ?_⟩
        rw [show bestO (freeB κ) (nameV p m κ) i s = s by unfold bestO; rw [if_pos hQ, if_pos hv]]
        have hv' : (daysK m (kset κ 4 i (nI p))).2.2 5 p ≤ s.1 := hv
        simp only [c_X4_name_55, c_X4_name_103, gI_Y0, gR_Y1, gR_Y2, gR_Y3, gR_Y4, gR_Y5, gI_Y6, gR_Y7, gR_Y8, gR_Y9, gR_Y10, gI_Y11, gI_Y12, gR_Y13, gR_Y14, gR_Y15, gR_Y16, gR_Y17, gR_Y18, gI_Y19, gI_Y20, gI_Y21, gI_Y22, gI_Y23, gR_Y24, gR_Y25, gR_Y26, gR_Y27, gR_Y28, gI_Y29, gI_Y30, gI_Y31, gR_Y33, gR_Y34, gI_Y35, gR_Y36, cV_Y, bk_some, bind_some', zb_0, zb_1, zb_or, cc_or, kset_1, kset_21, kint_1, kint_21, kint_22, putY_moved, lt_9I him hk9, hfr, hQ, sA_Y55 w Y hk9 him, hmt, hv', nI_1, if_true, if_false, not_true_eq_false, not_false_eq_true, Bool.false_eq_true, Bool.true_eq_false, reduceIte, ite_true, ite_false]
        exact h'
      · obtain ⟨Y', e', h'⟩ := nameY w hW hp hm k c (i + 1) (nameV p m κ i, some i) Y1 n (by omega) (by omega) (fun z h => by cases h; exact hi) (e1.1.1.trans h0) hK1
        refine ⟨Y', e1.trans e', ?_⟩
        rw [show bestO (freeB κ) (nameV p m κ) i s = (nameV p m κ i, some i) by unfold bestO; rw [if_pos hQ, if_neg hv]]
        have hv' : ¬ (daysK m (kset κ 4 i (nI p))).2.2 5 p ≤ s.1 := hv
        simp only [c_X4_name_55, c_X4_name_103, gI_Y0, gR_Y1, gR_Y2, gR_Y3, gR_Y4, gR_Y5, gI_Y6, gR_Y7, gR_Y8, gR_Y9, gR_Y10, gI_Y11, gI_Y12, gR_Y13, gR_Y14, gR_Y15, gR_Y16, gR_Y17, gR_Y18, gI_Y19, gI_Y20, gI_Y21, gI_Y22, gI_Y23, gR_Y24, gR_Y25, gR_Y26, gR_Y27, gR_Y28, gI_Y29, gI_Y30, gI_Y31, gR_Y33, gR_Y34, gI_Y35, gR_Y36, cV_Y, bk_some, bind_some', zb_0, zb_1, zb_or, cc_or, kset_1, kset_21, kint_1, kint_21, kint_22, putY_moved, lt_9I him hk9, hfr, hQ, sA_Y55 w Y hk9 him, hmt, hv', nI_1, if_true, if_false, not_true_eq_false, not_false_eq_true, Bool.false_eq_true, Bool.true_eq_false, reduceIte, ite_true, ite_false]
        exact h'
    · obtain ⟨Y', e', h'⟩ := nameY w hW hp hm k c (i + 1) s Y n (by omega) (by omega) hz h0 hK
      refine ⟨Y', e', ?_⟩
      rw [show bestO (freeB κ) (nameV p m κ) i s = s by unfold bestO; rw [if_neg hQ]]
      simp only [c_X4_name_55, gI_Y0, gR_Y1, gR_Y2, gR_Y3, gR_Y4, gR_Y5, gI_Y6, gR_Y7, gR_Y8, gR_Y9, gR_Y10, gI_Y11, gI_Y12, gR_Y13, gR_Y14, gR_Y15, gR_Y16, gR_Y17, gR_Y18, gI_Y19, gI_Y20, gI_Y21, gI_Y22, gI_Y23, gR_Y24, gR_Y25, gR_Y26, gR_Y27, gR_Y28, gI_Y29, gI_Y30, gI_Y31, gR_Y33, gR_Y34, gI_Y35, gR_Y36, cV_Y, bk_some, bind_some', zb_0, zb_1, zb_or, cc_or, kset_1, kset_21, kint_1, kint_21, kint_22, putY_moved, lt_9I him hk9, hfr, Bool.eq_false_iff.mpr hQ, nI_1, if_true, if_false, not_true_eq_false, not_false_eq_true, Bool.false_eq_true, Bool.true_eq_false, reduceIte, ite_true, ite_false]
      exact h'
theorem m_name (w : aW) (Y : aY) {κ : aK} (hW : WF κ) (hs : Y.1 0 = 0) (x n k : Int32) : ∃ Y', Yk Y Y' ∧ f_X4_name 50 x n k (putY w κ Y) = some (nameK x n k κ, putY w κ Y') := by
  have hk9 := hW.1
  unfold f_X4_name nameK
  by_cases h1 : inR x 0 4 = true
  · by_cases h2 : inR n 0 30 = true
    · by_cases h3 : inR k 0 1 = true
      · obtain ⟨p, hp, hx⟩ := inP h1
        obtain ⟨m, hm, hn⟩ := name_in h2
        subst hx hn
        obtain ⟨Y1, e1, hK, ht⟩ := k_think w (yint Y 1 0) hk9
        have hs1 : Y1.1 0 = 0 := e1.1.1.trans hs
        obtain ⟨Y2, e2, hK2, hmt⟩ := m_meansThen w hk9 Y1 hW hs1 hK hp (show m < 1000 by omega)
        have hs2 : Y2.1 0 = 0 := e2.1.1.trans hs1
        obtain ⟨Y3, e3, hl⟩ := nameY w hW hp (show m < 1000 by omega) k κ.1 0 ((daysK m κ).2.2 5 p, none) Y2 a_fuel (by omega) (show κ.1 < 1000 by omega) (fun z h => by cases h) hs2 hK2
        refine ⟨Y3, (((Yk.thrown Y 0).trans e1).trans e2).trans e3, ?_⟩
        rw [show itr (bestO (freeB κ) (nameV p m κ)) 0 κ.1 ((daysK m κ).2.2 5 p, none) = itr (bestO (freeB κ) (nameV p m κ)) 0 9 ((daysK m κ).2.2 5 p, none) from
          (itr_many hk9 _ (fun i h1 h2 => by unfold bestO freeB; rw [(hW.2.2.2.2 i h1 h2).2]; rfl)).symm] at hl
        simp only [p_in32 (x := nI m) (a := 0) (b := 30) (a' := 0) (b' := 30) rfl rfl, p_in32 (x := k) (a := 0) (b := 1) (a' := 0) (b' := 1) rfl rfl, h1, h2, h3, m_isPerson, sF_Y19, gI_Y0, gR_Y1, gR_Y2, gR_Y3, gR_Y4, gR_Y5, gI_Y6, gR_Y7, gR_Y8, gR_Y9, gR_Y10, gI_Y11, gI_Y12, gR_Y13, gR_Y14, gR_Y15, gR_Y16, gR_Y17, gR_Y18, gI_Y19, gI_Y20, gI_Y21, gI_Y22, gI_Y23, gR_Y24, gR_Y25, gR_Y26, gR_Y27, gR_Y28, gI_Y29, gI_Y30, gI_Y31, gR_Y33, gR_Y34, gI_Y35, gR_Y36, cV_Y, bk_some, bind_some', zb_0, zb_1, zb_or, cc_or, kset_1, kset_21, kint_1, kint_21, kint_22, putY_moved, ht, hmt, ix_nI (show p < 2 ^ 31 by omega), ix_nI (show m < 2 ^ 31 by omega), if_true, if_false, not_true_eq_false, not_false_eq_true, Bool.false_eq_true, Bool.true_eq_false, reduceIte, ite_true, ite_false]
        exact hl
      · have h3 := Bool.eq_false_iff.mpr h3
        refine ⟨yint Y 1 0, Yk.thrown Y 0, ?_⟩
        simp only [p_in32 (x := n) (a := 0) (b := 30) (a' := 0) (b' := 30) rfl rfl, p_in32 (x := k) (a := 0) (b := 1) (a' := 0) (b' := 1) rfl rfl, h1, h2, h3, m_isPerson, sF_Y19, gI_Y0, gR_Y1, gR_Y2, gR_Y3, gR_Y4, gR_Y5, gI_Y6, gR_Y7, gR_Y8, gR_Y9, gR_Y10, gI_Y11, gI_Y12, gR_Y13, gR_Y14, gR_Y15, gR_Y16, gR_Y17, gR_Y18, gI_Y19, gI_Y20, gI_Y21, gI_Y22, gI_Y23, gR_Y24, gR_Y25, gR_Y26, gR_Y27, gR_Y28, gI_Y29, gI_Y30, gI_Y31, gR_Y33, gR_Y34, gI_Y35, gR_Y36, cV_Y, bk_some, bind_some', zb_0, zb_1, zb_or, cc_or, kset_1, kset_21, kint_1, kint_21, kint_22, putY_moved, if_true, if_false, not_true_eq_false, not_false_eq_true, Bool.false_eq_true, Bool.true_eq_false, reduceIte, ite_true, ite_false]
    · have h2 := Bool.eq_false_iff.mpr h2
      refine ⟨yint Y 1 0, Yk.thrown Y 0, ?_⟩
      simp only [p_in32 (x := n) (a := 0) (b := 30) (a' := 0) (b' := 30) rfl rfl, h1, h2, m_isPerson, sF_Y19, gI_Y0, gR_Y1, gR_Y2, gR_Y3, gR_Y4, gR_Y5, gI_Y6, gR_Y7, gR_Y8, gR_Y9, gR_Y10, gI_Y11, gI_Y12, gR_Y13, gR_Y14, gR_Y15, gR_Y16, gR_Y17, gR_Y18, gI_Y19, gI_Y20, gI_Y21, gI_Y22, gI_Y23, gR_Y24, gR_Y25, gR_Y26, gR_Y27, gR_Y28, gI_Y29, gI_Y30, gI_Y31, gR_Y33, gR_Y34, gI_Y35, gR_Y36, cV_Y, bk_some, bind_some', zb_0, zb_1, zb_or, cc_or, kset_1, kset_21, kint_1, kint_21, kint_22, putY_moved, if_true, if_false, not_true_eq_false, not_false_eq_true, Bool.false_eq_true, Bool.true_eq_false, reduceIte, ite_true, ite_false]
  · have h1 := Bool.eq_false_iff.mpr h1
    refine ⟨yint Y 1 0, Yk.thrown Y 0, ?_⟩
    simp only [h1, m_isPerson, sF_Y19, gI_Y0, gR_Y1, gR_Y2, gR_Y3, gR_Y4, gR_Y5, gI_Y6, gR_Y7, gR_Y8, gR_Y9, gR_Y10, gI_Y11, gI_Y12, gR_Y13, gR_Y14, gR_Y15, gR_Y16, gR_Y17, gR_Y18, gI_Y19, gI_Y20, gI_Y21, gI_Y22, gI_Y23, gR_Y24, gR_Y25, gR_Y26, gR_Y27, gR_Y28, gI_Y29, gI_Y30, gI_Y31, gR_Y33, gR_Y34, gI_Y35, gR_Y36, cV_Y, bk_some, bind_some', zb_0, zb_1, zb_or, cc_or, kset_1, kset_21, kint_1, kint_21, kint_22, putY_moved, if_true, if_false, not_true_eq_false, not_false_eq_true, Bool.false_eq_true, Bool.true_eq_false, reduceIte, ite_true, ite_false]
