/-! PURE: keeping alive, day by day and at the end; least -/
theorem itr_shift {σ : Type} (f : σ → σ) : ∀ (n a b : Nat) (s : σ), itr (fun _ => f) a n s = itr (fun _ => f) b n s
  | 0, _, _, _ => rfl
  | n + 1, a, b, s => itr_shift f n (a + 1) (b + 1) (f s)
theorem days_s (n : Nat) (κ : aK) : daysK (n + 1) κ = daysK n (passK 0 κ) := itr_shift (passK 0) n 1 0 (passK 0 κ)
theorem all_bits {a : Nat} (ha : a < 512) (κ : aK) : allB (nI a) κ = true ↔ ∀ i, i < 9 → bitB (nI a) (nI i) = true → bitB (κ.2.1 1) (nI i) = true := by
  unfold allB
  obtain ⟨b, hb, hB⟩ := and_lt ha (κ.2.1 1 ^^^ (-1))
  constructor
  · intro h i hi hm
    have h := of_decide_eq_true h
    have e := bit_and (nI a) (κ.2.1 1 ^^^ (-1)) (i := i) (by omega)
    rw [h, bit_0 (by omega), hm, bit_not _ (by omega), Bool.true_and] at e
    cases hc : bitB (κ.2.1 1) (nI i)
    · rw [hc] at e; exact absurd e (by decide)
    · rfl
  · intro h
    refine decide_eq_true ?_
    rw [hB]
    refine ext9 (b := 0) hb (by decide) (fun i hi => ?_)
    rw [← hB, bit_and _ _ (by omega), bit_not _ (by omega), show nI 0 = 0 from rfl, bit_0 (by omega)]
    cases hm : bitB (nI a) (nI i)
    · rfl
    · rw [h i hi hm]; rfl
theorem all_back {a : Nat} (ha : a < 512) {κ κ' : aK} (hL : Liv κ κ') (h : allB (nI a) κ' = true) : allB (nI a) κ = true := by
  rw [all_bits ha] at h ⊢
  exact fun i hi hm => hL.1 i hi (h i hi hm)
theorem keeps_all {a : Nat} (ha : a < 512) : ∀ (n : Nat) (κ : aK), allB (nI a) κ = true → keepsB (nI a) n κ = allB (nI a) (daysK n κ)
  | 0, κ, h => by
    show true = allB (nI a) κ
    rw [h]
  | n + 1, κ, _ => by
    unfold keepsB
    rw [days_s]
    by_cases h : allB (nI a) (passK 0 κ) = true
    · rw [if_pos h]; exact keeps_all ha n (passK 0 κ) h
    · rw [if_neg h]
      exact (Bool.eq_false_iff.mpr (fun z => h (all_back ha (days_liv n (passK 0 κ)) z))).symm
theorem called_lt (κ : aK) (p : Int32) : ∃ a, a < 512 ∧ calledK κ p = nI a := msk_lt _ (by decide)
theorem called_all {κ : aK} (hC : CA κ) {p : Nat} (hp : p < 5) : allB (calledK κ (nI p)) κ = true := by
  obtain ⟨a, ha, hA⟩ := called_lt κ (nI p)
  rw [hA, all_bits ha]
  intro i hi hm
  rw [← hA] at hm
  unfold calledK at hm
  rw [bit_msk _ (by decide) (by omega), Bool.and_eq_true] at hm
  refine hC i hi (fun z => ?_)
  have := of_decide_eq_true hm.2
  rw [z] at this
  exact nI_ne4 (p := p) (by omega) this.symm
theorem T_keeps (w : aW) {X : aX} (hW : WF X.2.1) (m : Int32) {n : Nat} (hn : n < 1000) : ∃ μ, f_X0_keepsAlive 11 m (nI n) (putX w X) = some (zb (keepsB m n X.2.1), putX w (xmind X μ)) := by
  obtain ⟨μ, hμ⟩ := p_keeps (w := putX w X) d20 m hn n 0 X.2.1 a_fuel (by omega) hn hW
  refine ⟨μ, ?_⟩
  unfold f_X0_keepsAlive
  rw [X_mind w X, ← X_mind', show (0 : Int32) = nI 0 from rfl]
  exact hμ
theorem m_allLive (w : aW) {κ0 κ : aK} (hk9 : κ0.1 ≤ 9) (Y : aY) (hW : WF κ) (hs : Y.1 0 = 0) (hK : Kept Y 8 κ0) (m : Int32) {n : Nat} (hn : n < 1000) : ∃ Y', Yk Y Y' ∧ Kept Y' 8 κ0 ∧ f_X4_allLive 50 m (nI n) (putY w κ Y) = some (zb (allB m (daysK n κ)), putY w κ0 Y') := by
  obtain ⟨Y2, e2, hK2, ha⟩ := k_again w (daysK n κ) Y hk9 hK
  refine ⟨Y2, e2, hK2, ?_⟩
  unfold f_X4_allLive allB
  simp only [gI_Y0, gR_Y1, gR_Y2, gR_Y3, gR_Y4, gR_Y5, gI_Y6, gR_Y7, gR_Y8, gR_Y9, gR_Y10, gI_Y11, gI_Y12, gR_Y13, gR_Y14, gR_Y15, gR_Y16, gR_Y17, gR_Y18, gI_Y19, gI_Y20, gI_Y21, gI_Y22, gI_Y23, gR_Y24, gR_Y25, gR_Y26, gR_Y27, gR_Y28, gI_Y29, gI_Y30, gI_Y31, gR_Y33, gR_Y34, gI_Y35, gR_Y36, cV_Y, bk_some, bind_some', zb_0, zb_1, zb_or, cc_or, kset_1, kset_21, kint_1, kint_21, kint_22, putY_moved, m_goDays w Y hW hs hn, ha]
  by_cases h : m &&& ((daysK n κ).2.1 1 ^^^ (-1)) = 0
  · rw [if_neg (fun z => z h), decide_eq_true h]; rfl
  · rw [if_pos h, decide_eq_false h]; rfl
def leastQ (κ : aK) (p n : Nat) (c : Nat) : Bool := keepsB (calledK κ (nI p)) n (kset κ 5 p (nI c))
def leastK (x n : Int32) (κ : aK) : Int32 := if inR x 0 4 = true then (if inR n 0 20 = true then o4 (fndK (leastQ κ (ix x) (ix n)) 0 61) else -1) else -1
theorem loop3_s {α0 α1 β : Type} (B : (α0 → α1 → aW → Option β) → α0 → α1 → aW → Option β) (n : Nat) : loop3 B (n + 1) = B (loop3 B n) := rfl
theorem leastX (w : aW) {X : aX} (hW : WF X.1) {p n : Nat} (hp : p < 5) (hn : n < 1000) : ∀ (m c : Nat) (μ : aK) (f : Nat), c + m = 61 → m < f → ∃ μ', loop3 (c_X3_least_31 0 (nI p) (nI n)) f (calledK X.1 (nI p)) (nI c) (putX w (xmind X μ)) = some (o4 (fndK (leastQ X.1 p n) c m), putX w (xmind X μ'))
  | 0, c, μ, f + 1, hm, _ => by
    have : c = 61 := by omega
    subst this
    refine ⟨μ, ?_⟩
    rw [loop3_s]
    simp only [c_X3_least_31, gt_60, if_true, if_false, not_true_eq_false, not_false_eq_true, Bool.false_eq_true, Bool.true_eq_false, reduceIte, ite_true, ite_false]
    rfl
  | m + 1, c, μ, f + 1, hm, hf => by
    rw [loop3_s]
    have hs := T_sA w (xmind X X.1) 5 (by decide) (i := p) hp (nI c)
    simp only [Nat.reduceAdd] at hs
    have hWc : WF (kset X.1 5 p (nI c)) := hW.purse (by omega)
    obtain ⟨μ1, h1⟩ := T_keeps w (X := xmind X (kset X.1 5 p (nI c))) hWc (calledK X.1 (nI p)) hn
    rw [xmind_2, xmind_1] at h1
    rw [fnd_s]
    by_cases hQ : leastQ X.1 p n c = true
    · refine ⟨μ1, ?_⟩
      have hQ' : keepsB (calledK X.1 (nI p)) n (kset X.1 5 p (nI c)) = true := hQ
      rw [if_pos hQ]
      simp only [c_X3_least_31, le_60 (show c ≤ 60 by omega), gR_X0, gR_X1, gR_X2, gI_X3, gR_X4, gR_X5, gR_X6, cV_X, x_think, xmind_1, xmind_0, xmind_2, xnow_0, xnow_1, xnow_2, bk_some, bind_some', zb_0, zb_1, zb_or, cc_or, T_cV, T_gI0, T_gI1, T_gI2, T_gI3, T_gR4, T_gR5, T_gR6, T_gR7, T_gR8, T_gR9, T_gR10, T_gR11, T_gR12, T_hasBeast, T_isAlive, T_calledBy, T_calledByAnybody, T_needTogether, T_workTogether, T_freeOnes, hs, h1, hQ', if_true, if_false, not_true_eq_false, not_false_eq_true, Bool.false_eq_true, Bool.true_eq_false, reduceIte, ite_true, ite_false]
      rfl
    · obtain ⟨μ', h'⟩ := leastX w hW hp hn m (c + 1) μ1 f (by omega) (by omega)
      refine ⟨μ', ?_⟩
      have hQ' : keepsB (calledK X.1 (nI p)) n (kset X.1 5 p (nI c)) = false := Bool.eq_false_iff.mpr hQ
      rw [if_neg hQ]
      simp only [c_X3_least_31, le_60 (show c ≤ 60 by omega), gR_X0, gR_X1, gR_X2, gI_X3, gR_X4, gR_X5, gR_X6, cV_X, x_think, xmind_1, xmind_0, xmind_2, xnow_0, xnow_1, xnow_2, bk_some, bind_some', zb_0, zb_1, zb_or, cc_or, T_cV, T_gI0, T_gI1, T_gI2, T_gI3, T_gR4, T_gR5, T_gR6, T_gR7, T_gR8, T_gR9, T_gR10, T_gR11, T_gR12, T_hasBeast, T_isAlive, T_calledBy, T_calledByAnybody, T_needTogether, T_workTogether, T_freeOnes, hs, h1, hQ', nI_1, if_true, if_false, not_true_eq_false, not_false_eq_true, Bool.false_eq_true, Bool.true_eq_false, reduceIte, ite_true, ite_false]
      exact h'
theorem least_in {x : Int32} (h : inR x 0 20 = true) : ∃ n, n ≤ 20 ∧ x = nI n := inR_nI (n := 20) (by decide) h
theorem x_least (w : aW) {X : aX} (hW : WF X.1) (x n : Int32) : ∃ μ, f_X3_least 0 x n (putX w X) = some (leastK x n X.1, putX w (xmind X μ)) := by
  unfold f_X3_least leastK
  by_cases h1 : inR x 0 4 = true
  · by_cases h2 : inR n 0 20 = true
    · obtain ⟨p, hp, hx⟩ := inP h1
      obtain ⟨m, hm, hn⟩ := least_in h2
      subst hx hn
      obtain ⟨μ, hμ⟩ := leastX w hW hp (show m < 1000 by omega) 61 0 X.2.1 a_fuel rfl (by decide)
      refine ⟨μ, ?_⟩
      simp only [h1, h2, p_isPerson, p_within, gR_X0, gR_X1, gR_X2, gI_X3, gR_X4, gR_X5, gR_X6, cV_X, x_think, xmind_1, xmind_0, xmind_2, xnow_0, xnow_1, xnow_2, bk_some, bind_some', zb_0, zb_1, zb_or, cc_or, N_cV, N_gI0, N_gI1, N_gI2, N_gI3, N_gR4, N_gR5, N_gR6, N_gR7, N_gR8, N_gR9, N_gR10, N_gR11, N_gR12, N_hasBeast, N_isAlive, N_calledBy, N_calledByAnybody, N_needTogether, N_workTogether, N_freeOnes, ix_nI (show p < 2 ^ 31 by omega), ix_nI (show m < 2 ^ 31 by omega), if_true, if_false, not_true_eq_false, not_false_eq_true, Bool.false_eq_true, Bool.true_eq_false, reduceIte, ite_true, ite_false]
      exact hμ
    · have h2 := Bool.eq_false_iff.mpr h2
      exact ⟨X.2.1, by simp only [h1, h2, gR_X0, gR_X1, gR_X2, gI_X3, gR_X4, gR_X5, gR_X6, cV_X, x_think, xmind_1, xmind_0, xmind_2, xnow_0, xnow_1, xnow_2, bk_some, bind_some', zb_0, zb_1, zb_or, cc_or, p_isPerson, p_within, if_true, if_false, not_true_eq_false, not_false_eq_true, Bool.false_eq_true, Bool.true_eq_false, reduceIte, ite_true, ite_false]; rfl⟩
  · have h1 := Bool.eq_false_iff.mpr h1
    exact ⟨X.2.1, by simp only [h1, gR_X0, gR_X1, gR_X2, gI_X3, gR_X4, gR_X5, gR_X6, cV_X, x_think, xmind_1, xmind_0, xmind_2, xnow_0, xnow_1, xnow_2, bk_some, bind_some', zb_0, zb_1, zb_or, cc_or, p_isPerson, p_within, if_true, if_false, not_true_eq_false, not_false_eq_true, Bool.false_eq_true, Bool.true_eq_false, reduceIte, ite_true, ite_false]; rfl⟩
theorem purse_CA {κ : aK} (hC : CA κ) (p : Nat) (x : Int32) : CA (kset κ 5 p x) := hC
theorem leastY (w : aW) {κ : aK} (hW : WF κ) (hC : CA κ) {p n : Nat} (hp : p < 5) (hn : n < 1000) : ∀ (m c : Nat) (Y : aY) (f : Nat), c + m = 61 → m < f → Y.1 0 = 0 → Kept Y 8 κ → ∃ Y', Yk Y Y' ∧ loop4 (c_X4_least_43 50 (nI p) (nI n)) f (-4) (calledK κ (nI p)) (nI c) (putY w κ Y) = some (o4 (fndK (leastQ κ p n) c m), putY w κ Y')
  | 0, c, Y, f + 1, hm, _, _, _ => by
    have : c = 61 := by omega
    subst this
    refine ⟨Y, Yk.refl Y, ?_⟩
    rw [loop4_s]
    simp only [c_X4_least_43, gt_60, if_true, if_false, not_true_eq_false, not_false_eq_true, Bool.false_eq_true, Bool.true_eq_false, reduceIte, ite_true, ite_false]
    rfl
  | m + 1, c, Y, f + 1, hm, hf, h0, hK => by
    have hk9 := hW.1
    rw [loop4_s]
    have hWc : WF (kset κ 5 p (nI c)) := hW.purse (by omega)
    obtain ⟨a, ha, hA⟩ := called_lt κ (nI p)
    have hall : allB (nI a) (kset κ 5 p (nI c)) = true := by rw [← hA]; exact called_all hC hp
    have hQe : leastQ κ p n c = allB (calledK κ (nI p)) (daysK n (kset κ 5 p (nI c))) := by
      unfold leastQ
      rw [hA]
      exact keeps_all ha n _ hall
    obtain ⟨Y1, e1, hK1, hl⟩ := m_allLive w hk9 Y hWc h0 hK (calledK κ (nI p)) hn
    rw [← hQe] at hl
    have h01 : Y1.1 0 = 0 := e1.1.1.trans h0
    rw [fnd_s]
    by_cases hQ : leastQ κ p n c = true
    · obtain ⟨f', hf'⟩ : ∃ f', f = f' + 1 := ⟨f - 1, by omega⟩
      refine ⟨Y1, e1, ?_⟩
      rw [if_pos hQ]
      rw [hQ] at hl
      have hstep : ∀ k, c_X4_least_43 50 (nI p) (nI n) k (-4) (calledK κ (nI p)) (nI c) (putY w κ Y) = k (nI c) (calledK κ (nI p)) (nI (c + 1)) (putY w κ Y1) := fun k => by
        simp only [c_X4_least_43, le_60 (show c ≤ 60 by omega), m4_neg, gI_Y0, gR_Y1, gR_Y2, gR_Y3, gR_Y4, gR_Y5, gI_Y6, gR_Y7, gR_Y8, gR_Y9, gR_Y10, gI_Y11, gI_Y12, gR_Y13, gR_Y14, gR_Y15, gR_Y16, gR_Y17, gR_Y18, gI_Y19, gI_Y20, gI_Y21, gI_Y22, gI_Y23, gR_Y24, gR_Y25, gR_Y26, gR_Y27, gR_Y28, gI_Y29, gI_Y30, gI_Y31, gR_Y33, gR_Y34, gI_Y35, gR_Y36, cV_Y, bk_some, bind_some', zb_0, zb_1, zb_or, cc_or, kset_1, kset_21, kint_1, kint_21, kint_22, putY_moved, sA_Y56 w κ Y hp, hl, nI_1, if_true, if_false, not_true_eq_false, not_false_eq_true, Bool.false_eq_true, Bool.true_eq_false, reduceIte, ite_true, ite_false]
      rw [hstep, hf', loop4_s]
      by_cases hd' : 60 < nI (c + 1)
      · simp only [c_X4_least_43, hd', if_true, if_false, not_true_eq_false, not_false_eq_true, Bool.false_eq_true, Bool.true_eq_false, reduceIte, ite_true, ite_false]
        rfl
      · simp only [c_X4_least_43, hd', nI_pos' (show c < 2 ^ 31 by omega), if_true, if_false, not_true_eq_false, not_false_eq_true, Bool.false_eq_true, Bool.true_eq_false, reduceIte, ite_true, ite_false]
        rfl
    · obtain ⟨Y', e', h'⟩ := leastY w hW hC hp hn m (c + 1) Y1 f (by omega) (by omega) h01 hK1
      refine ⟨Y', e1.trans e', ?_⟩
      rw [if_neg hQ]
      rw [Bool.eq_false_iff.mpr hQ] at hl
      simp only [c_X4_least_43, le_60 (show c ≤ 60 by omega), m4_neg, gI_Y0, gR_Y1, gR_Y2, gR_Y3, gR_Y4, gR_Y5, gI_Y6, gR_Y7, gR_Y8, gR_Y9, gR_Y10, gI_Y11, gI_Y12, gR_Y13, gR_Y14, gR_Y15, gR_Y16, gR_Y17, gR_Y18, gI_Y19, gI_Y20, gI_Y21, gI_Y22, gI_Y23, gR_Y24, gR_Y25, gR_Y26, gR_Y27, gR_Y28, gI_Y29, gI_Y30, gI_Y31, gR_Y33, gR_Y34, gI_Y35, gR_Y36, cV_Y, bk_some, bind_some', zb_0, zb_1, zb_or, cc_or, kset_1, kset_21, kint_1, kint_21, kint_22, putY_moved, sA_Y56 w κ Y hp, hl, nI_1, if_true, if_false, not_true_eq_false, not_false_eq_true, Bool.false_eq_true, Bool.true_eq_false, reduceIte, ite_true, ite_false]
      exact h'
theorem m_least (w : aW) (Y : aY) {κ : aK} (hW : WF κ) (hC : CA κ) (hs : Y.1 0 = 0) (x n : Int32) : ∃ Y', Yk Y Y' ∧ f_X4_least 50 x n (putY w κ Y) = some (leastK x n κ, putY w κ Y') := by
  have hk9 := hW.1
  unfold f_X4_least leastK
  by_cases h1 : inR x 0 4 = true
  · by_cases h2 : inR n 0 20 = true
    · obtain ⟨p, hp, hx⟩ := inP h1
      obtain ⟨m, hm, hn⟩ := least_in h2
      subst hx hn
      obtain ⟨Y1, e1, hK, ht⟩ := k_think w (yint Y 1 0) hk9
      have hs1 : Y1.1 0 = 0 := e1.1.1.trans hs
      obtain ⟨Y2, e2, hl⟩ := leastY w hW hC hp (show m < 1000 by omega) 61 0 Y1 a_fuel rfl (by decide) hs1 hK
      refine ⟨Y2, ((Yk.thrown Y 0).trans e1).trans e2, ?_⟩
      simp only [p_in32 (x := nI m) (a := 0) (b := 20) (a' := 0) (b' := 20) rfl rfl, h1, h2, m_isPerson, m_calledBits w (yint Y 1 0) hW hp, sF_Y19, gI_Y0, gR_Y1, gR_Y2, gR_Y3, gR_Y4, gR_Y5, gI_Y6, gR_Y7, gR_Y8, gR_Y9, gR_Y10, gI_Y11, gI_Y12, gR_Y13, gR_Y14, gR_Y15, gR_Y16, gR_Y17, gR_Y18, gI_Y19, gI_Y20, gI_Y21, gI_Y22, gI_Y23, gR_Y24, gR_Y25, gR_Y26, gR_Y27, gR_Y28, gI_Y29, gI_Y30, gI_Y31, gR_Y33, gR_Y34, gI_Y35, gR_Y36, cV_Y, bk_some, bind_some', zb_0, zb_1, zb_or, cc_or, kset_1, kset_21, kint_1, kint_21, kint_22, putY_moved, ht, ix_nI (show p < 2 ^ 31 by omega), ix_nI (show m < 2 ^ 31 by omega), if_true, if_false, not_true_eq_false, not_false_eq_true, Bool.false_eq_true, Bool.true_eq_false, reduceIte, ite_true, ite_false]
      exact hl
    · have h2 := Bool.eq_false_iff.mpr h2
      refine ⟨yint Y 1 0, Yk.thrown Y 0, ?_⟩
      simp only [p_in32 (x := n) (a := 0) (b := 20) (a' := 0) (b' := 20) rfl rfl, h1, h2, m_isPerson, sF_Y19, gI_Y0, gR_Y1, gR_Y2, gR_Y3, gR_Y4, gR_Y5, gI_Y6, gR_Y7, gR_Y8, gR_Y9, gR_Y10, gI_Y11, gI_Y12, gR_Y13, gR_Y14, gR_Y15, gR_Y16, gR_Y17, gR_Y18, gI_Y19, gI_Y20, gI_Y21, gI_Y22, gI_Y23, gR_Y24, gR_Y25, gR_Y26, gR_Y27, gR_Y28, gI_Y29, gI_Y30, gI_Y31, gR_Y33, gR_Y34, gI_Y35, gR_Y36, cV_Y, bk_some, bind_some', zb_0, zb_1, zb_or, cc_or, kset_1, kset_21, kint_1, kint_21, kint_22, putY_moved, if_true, if_false, not_true_eq_false, not_false_eq_true, Bool.false_eq_true, Bool.true_eq_false, reduceIte, ite_true, ite_false]
  · have h1 := Bool.eq_false_iff.mpr h1
    refine ⟨yint Y 1 0, Yk.thrown Y 0, ?_⟩
    simp only [h1, m_isPerson, sF_Y19, gI_Y0, gR_Y1, gR_Y2, gR_Y3, gR_Y4, gR_Y5, gI_Y6, gR_Y7, gR_Y8, gR_Y9, gR_Y10, gI_Y11, gI_Y12, gR_Y13, gR_Y14, gR_Y15, gR_Y16, gR_Y17, gR_Y18, gI_Y19, gI_Y20, gI_Y21, gI_Y22, gI_Y23, gR_Y24, gR_Y25, gR_Y26, gR_Y27, gR_Y28, gI_Y29, gI_Y30, gI_Y31, gR_Y33, gR_Y34, gI_Y35, gR_Y36, cV_Y, bk_some, bind_some', zb_0, zb_1, zb_or, cc_or, kset_1, kset_21, kint_1, kint_21, kint_22, putY_moved, if_true, if_false, not_true_eq_false, not_false_eq_true, Bool.false_eq_true, Bool.true_eq_false, reduceIte, ite_true, ite_false]
