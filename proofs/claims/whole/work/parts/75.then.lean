/-! PURE: dies, at both sides -/
def diesK (x : Int32) (κ : aK) : Int32 := if x = -1 then o4 (firstD (aliveB κ) 60 κ) else if inR x 0 (nI κ.1 - 1) = true then outZ (-4) (deadP (ix x)) 61 0 κ else -1
theorem x_dies (w : aW) {X : aX} (hW : WF X.1) (x : Int32) : ∃ μ, f_X3_dies 0 x (putX w X) = some (diesK x X.1, putX w (xmind X μ)) := by
  unfold diesK
  by_cases h0 : x = -1
  · subst h0
    rw [if_pos rfl]
    exact x_dies0 w hW
  · rw [if_neg h0]
    by_cases h1 : inR x 0 (nI X.1.1 - 1) = true
    · obtain ⟨b, hb, rfl⟩ := inB hW.1 h1
      rw [if_pos h1, ix_nI (by have := hW.1; omega)]
      exact x_dies1 w hW hb
    · rw [if_neg h1]
      have h1 := Bool.eq_false_iff.mpr h1
      refine ⟨X.2.1, ?_⟩
      unfold f_X3_dies
      simp only [h0, h1, gR_X0, gR_X1, gR_X2, gI_X3, gR_X4, gR_X5, gR_X6, cV_X, x_think, xmind_1, xmind_0, xmind_2, xnow_0, xnow_1, xnow_2, bk_some, bind_some', zb_0, zb_1, zb_or, cc_or, N_cV, N_gI0, N_gI1, N_gI2, N_gI3, N_gR4, N_gR5, N_gR6, N_gR7, N_gR8, N_gR9, N_gR10, N_gR11, N_gR12, N_hasBeast, N_isAlive, N_calledBy, N_calledByAnybody, N_needTogether, N_workTogether, N_freeOnes, if_true, if_false, not_true_eq_false, not_false_eq_true, Bool.false_eq_true, Bool.true_eq_false, reduceIte, ite_true, ite_false]
      rfl
theorem tN_out (P : aK → Bool) (κ : aK) : outZ 61 P 61 0 κ = nI (tN P 61 0 κ) := by
  unfold outZ tN
  cases fstD P 61 0 κ <;> rfl
theorem le_nI' {a b : Nat} (ha : a < 2 ^ 31) (hb : b < 2 ^ 31) : (nI a ≤ nI b) = ¬ (b < a) := by rw [le_nI ha hb]; exact propext Nat.not_lt.symm
theorem m_first (w : aW) {κ : aK} (hW : WF κ) (x : Int32) : ∀ (m i : Nat) (s : Option Nat × Nat) (Y : aY) (n : Nat), i + m = κ.1 → m < n → s.2 ≤ 61 → Y.1 0 = 0 →
    ∃ Y', Yk Y Y' ∧ loop4 (c_X4_dies_57 50 x) n (o4 s.1) (nI s.2) (nI i) (putY w κ Y) = some (o4 (itr (minF (aliveB κ) (fun i => tN (deadP i) 61 0 κ)) i m s).1, putY w κ Y')
  | 0, i, s, Y, n + 1, hm, _, _, _ => by
    have : i = κ.1 := by omega
    subst this
    refine ⟨Y, Yk.refl Y, ?_⟩
    show c_X4_dies_57 50 x (loop4 (c_X4_dies_57 50 x) n) (o4 s.1) (nI s.2) (nI κ.1) (putY w κ Y) = _
    simp only [c_X4_dies_57, gI_Y0, gR_Y1, gR_Y2, gR_Y3, gR_Y4, gR_Y5, gI_Y6, gR_Y7, gR_Y8, gR_Y9, gR_Y10, gI_Y11, gI_Y12, gR_Y13, gR_Y14, gR_Y15, gR_Y16, gR_Y17, gR_Y18, gI_Y19, gI_Y20, gI_Y21, gI_Y22, gI_Y23, gR_Y24, gR_Y25, gR_Y26, gR_Y27, gR_Y28, gI_Y29, gI_Y30, gI_Y31, gR_Y33, gR_Y34, gI_Y35, gR_Y36, cV_Y, bk_some, bind_some', zb_0, zb_1, zb_or, cc_or, kset_1, kset_21, kint_1, kint_21, kint_22, putY_moved, Int32.le_refl, if_true, if_false, not_true_eq_false, not_false_eq_true, Bool.false_eq_true, Bool.true_eq_false, reduceIte, ite_true, ite_false]
    rfl
  | m + 1, i, s, Y, n + 1, hm, hn, hs, h0 => by
    have hk9 := hW.1
    show ∃ Y', Yk Y Y' ∧ c_X4_dies_57 50 x (loop4 (c_X4_dies_57 50 x) n) (o4 s.1) (nI s.2) (nI i) (putY w κ Y) = _
    have hi : ¬ nI κ.1 ≤ nI i := lt_9I (by omega) hk9
    have hs61 : nI s.2 ≤ 61 := nI_le hs (by decide)
    show ∃ Y', Yk Y Y' ∧ _ = some (o4 (itr _ (i + 1) m (minF (aliveB κ) (fun i => tN (deadP i) 61 0 κ) i s)).1, _)
    by_cases hA : bitB (κ.2.1 1) (nI i) = true
    · obtain ⟨Y1, e1, hd⟩ := m_diesIn w Y hW h0 (b := i) (by omega)
      rw [tN_out] at hd
      have ht := tN_ge (deadP i) (m := 61) (d := 0) κ (by decide)
      have hm' : minF (aliveB κ) (fun i => tN (deadP i) 61 0 κ) i s = if tN (deadP i) 61 0 κ < s.2 then (some i, tN (deadP i) 61 0 κ) else s := if_pos (show aliveB κ i = true from hA)
      rw [hm']
      by_cases hl : tN (deadP i) 61 0 κ < s.2
      · obtain ⟨Y2, e2, hr⟩ := m_first w hW x m (i + 1) (some i, tN (deadP i) 61 0 κ) Y1 n (by omega) (by omega) (by show tN (deadP i) 61 0 κ ≤ 61; omega) (e1.1.1.trans h0)
        refine ⟨Y2, e1.trans e2, ?_⟩
        simp only [c_X4_dies_57, c_X4_dies_103, gI_Y0, gR_Y1, gR_Y2, gR_Y3, gR_Y4, gR_Y5, gI_Y6, gR_Y7, gR_Y8, gR_Y9, gR_Y10, gI_Y11, gI_Y12, gR_Y13, gR_Y14, gR_Y15, gR_Y16, gR_Y17, gR_Y18, gI_Y19, gI_Y20, gI_Y21, gI_Y22, gI_Y23, gR_Y24, gR_Y25, gR_Y26, gR_Y27, gR_Y28, gI_Y29, gI_Y30, gI_Y31, gR_Y33, gR_Y34, gI_Y35, gR_Y36, cV_Y, bk_some, bind_some', zb_0, zb_1, zb_or, cc_or, kset_1, kset_21, kint_1, kint_21, kint_22, putY_moved, hi, p_hasBit, hA, hd, le_nI' (show s.2 < 2 ^ 31 by omega) (show tN (deadP i) 61 0 κ < 2 ^ 31 by omega), hl, nI_1, if_true, if_false, not_true_eq_false, not_false_eq_true, Bool.false_eq_true, Bool.true_eq_false, reduceIte, ite_true, ite_false]
        exact hr
      · obtain ⟨Y2, e2, hr⟩ := m_first w hW x m (i + 1) s Y1 n (by omega) (by omega) hs (e1.1.1.trans h0)
        refine ⟨Y2, e1.trans e2, ?_⟩
        simp only [c_X4_dies_57, c_X4_dies_103, gI_Y0, gR_Y1, gR_Y2, gR_Y3, gR_Y4, gR_Y5, gI_Y6, gR_Y7, gR_Y8, gR_Y9, gR_Y10, gI_Y11, gI_Y12, gR_Y13, gR_Y14, gR_Y15, gR_Y16, gR_Y17, gR_Y18, gI_Y19, gI_Y20, gI_Y21, gI_Y22, gI_Y23, gR_Y24, gR_Y25, gR_Y26, gR_Y27, gR_Y28, gI_Y29, gI_Y30, gI_Y31, gR_Y33, gR_Y34, gI_Y35, gR_Y36, cV_Y, bk_some, bind_some', zb_0, zb_1, zb_or, cc_or, kset_1, kset_21, kint_1, kint_21, kint_22, putY_moved, hi, p_hasBit, hA, hd, le_nI' (show s.2 < 2 ^ 31 by omega) (show tN (deadP i) 61 0 κ < 2 ^ 31 by omega), hl, nI_1, if_true, if_false, not_true_eq_false, not_false_eq_true, Bool.false_eq_true, Bool.true_eq_false, reduceIte, ite_true, ite_false]
        exact hr
    · have hA' := Bool.eq_false_iff.mpr hA
      have hm' : minF (aliveB κ) (fun i => tN (deadP i) 61 0 κ) i s = s := if_neg (show ¬ aliveB κ i = true from hA)
      rw [hm']
      obtain ⟨Y2, e2, hr⟩ := m_first w hW x m (i + 1) s Y n (by omega) (by omega) hs h0
      refine ⟨Y2, e2, ?_⟩
      simp only [c_X4_dies_57, c_X4_dies_103, gI_Y0, gR_Y1, gR_Y2, gR_Y3, gR_Y4, gR_Y5, gI_Y6, gR_Y7, gR_Y8, gR_Y9, gR_Y10, gI_Y11, gI_Y12, gR_Y13, gR_Y14, gR_Y15, gR_Y16, gR_Y17, gR_Y18, gI_Y19, gI_Y20, gI_Y21, gI_Y22, gI_Y23, gR_Y24, gR_Y25, gR_Y26, gR_Y27, gR_Y28, gI_Y29, gI_Y30, gI_Y31, gR_Y33, gR_Y34, gI_Y35, gR_Y36, cV_Y, bk_some, bind_some', zb_0, zb_1, zb_or, cc_or, kset_1, kset_21, kint_1, kint_21, kint_22, putY_moved, hi, p_hasBit, hA', hs61, nI_1, if_true, if_false, not_true_eq_false, not_false_eq_true, Bool.false_eq_true, Bool.true_eq_false, reduceIte, ite_true, ite_false]
      exact hr
theorem inR_m1 (x c : Int32) (h : -1 ≤ c) : inR x (-1) c = (decide (x = -1) || inR x 0 c) := by
  unfold inR
  by_cases h0 : x = -1
  · subst h0
    rw [decide_eq_true (Int32.le_refl _), decide_eq_true h, decide_eq_true rfl]; rfl
  · rw [decide_eq_false h0, Bool.false_or]
    congr 1
    refine decide_eq_decide.mpr ⟨fun z => ?_, fun z => Int32.le_trans (by decide) z⟩
    rw [Int32.le_iff_toInt_le] at z ⊢
    have h2 : x.toInt ≠ -1 := fun e => h0 (Int32.toInt_inj.mp e)
    have h3 : (-1 : Int32).toInt = -1 := rfl
    have h4 : (0 : Int32).toInt = 0 := rfl
    omega
theorem m_dies (w : aW) (Y : aY) {κ : aK} (hW : WF κ) (hs : Y.1 0 = 0) (x : Int32) : ∃ Y', Yk Y Y' ∧ f_X4_dies 50 x (putY w κ Y) = some (diesK x κ, putY w κ Y') := by
  have hk9 := hW.1
  have hs' : (yint Y 1 0).1 0 = 0 := hs
  have hc : -1 ≤ nI κ.1 - 1 := by
    rcases (show κ.1 = 0 ∨ κ.1 = 1 ∨ κ.1 = 2 ∨ κ.1 = 3 ∨ κ.1 = 4 ∨ κ.1 = 5 ∨ κ.1 = 6 ∨ κ.1 = 7 ∨ κ.1 = 8 ∨ κ.1 = 9 by omega) with h | h | h | h | h | h | h | h | h | h <;> rw [h] <;> decide
  have hin : ∀ w, f_X4_in x.toInt64 (-1) (nI κ.1 - 1).toInt64 w = some (zb (decide (x = -1) || inR x 0 (nI κ.1 - 1)), w) := fun w => by
    rw [p_in32 (x := x) (a := -1) (b := nI κ.1 - 1) rfl (Int32.toInt_toInt64 _), inR_m1 _ _ hc]
  unfold diesK
  by_cases h0 : x = -1
  · obtain ⟨Y2, e2, hr⟩ := m_first w hW x κ.1 0 (none, 61) (yint Y 1 0) a_fuel (by omega) (show κ.1 < 1000 by omega) (Nat.le_refl _) hs'
    refine ⟨Y2, (Yk.thrown Y 0).trans e2, ?_⟩
    have e : itr (minF (aliveB κ) (fun i => tN (deadP i) 61 0 κ)) 0 κ.1 (none, 61) = itr (minF (aliveB κ) (fun i => tN (deadP i) 61 0 κ)) 0 9 (none, 61) :=
      (itr_many hk9 _ (fun i h1 h2 => by unfold minF; rw [if_neg (by unfold aliveB; rw [(hW.2.2.2.2 i h1 h2).2]; decide)])).symm
    have e9 : (itr (minF (aliveB κ) (fun i => tN (deadP i) 61 0 κ)) 0 9 (none, 61)).1 = firstD (aliveB κ) 60 κ := first_min (aliveB κ) 60 0 κ rfl (fun i _ hA => by unfold deadP; unfold aliveB at hA; rw [hA]; rfl)
    rw [e, e9] at hr
    subst h0
    have hin' := fun w => hin w
    rw [decide_eq_true rfl, Bool.true_or] at hin'
    have h1 : (-1 : Int32) < 0 := by decide
    rw [if_pos rfl]
    unfold f_X4_dies
    simp only [hin', sF_Y19, gI_Y0, gR_Y1, gR_Y2, gR_Y3, gR_Y4, gR_Y5, gI_Y6, gR_Y7, gR_Y8, gR_Y9, gR_Y10, gI_Y11, gI_Y12, gR_Y13, gR_Y14, gR_Y15, gR_Y16, gR_Y17, gR_Y18, gI_Y19, gI_Y20, gI_Y21, gI_Y22, gI_Y23, gR_Y24, gR_Y25, gR_Y26, gR_Y27, gR_Y28, gI_Y29, gI_Y30, gI_Y31, gR_Y33, gR_Y34, gI_Y35, gR_Y36, cV_Y, bk_some, bind_some', zb_0, zb_1, zb_or, cc_or, kset_1, kset_21, kint_1, kint_21, kint_22, putY_moved, h1, if_true, if_false, not_true_eq_false, not_false_eq_true, Bool.false_eq_true, Bool.true_eq_false, reduceIte, ite_true, ite_false]
    exact hr
  · by_cases h1 : inR x 0 (nI κ.1 - 1) = true
    · obtain ⟨b, hb, hx⟩ := inB hk9 h1
      subst hx
      obtain ⟨Y1, e1, hd⟩ := m_diesIn w (yint Y 1 0) hW hs' (b := b) (by omega)
      refine ⟨Y1, (Yk.thrown Y 0).trans e1, ?_⟩
      unfold f_X4_dies
      simp only [hin, h0, h1, sF_Y19, gI_Y0, gR_Y1, gR_Y2, gR_Y3, gR_Y4, gR_Y5, gI_Y6, gR_Y7, gR_Y8, gR_Y9, gR_Y10, gI_Y11, gI_Y12, gR_Y13, gR_Y14, gR_Y15, gR_Y16, gR_Y17, gR_Y18, gI_Y19, gI_Y20, gI_Y21, gI_Y22, gI_Y23, gR_Y24, gR_Y25, gR_Y26, gR_Y27, gR_Y28, gI_Y29, gI_Y30, gI_Y31, gR_Y33, gR_Y34, gI_Y35, gR_Y36, cV_Y, bk_some, bind_some', zb_0, zb_1, zb_or, cc_or, kset_1, kset_21, kint_1, kint_21, kint_22, putY_moved, hd, decide_false, Bool.false_or, nI_nlt0 (show b < 2 ^ 31 by omega), ix_nI (show b < 2 ^ 31 by omega), if_true, if_false, not_true_eq_false, not_false_eq_true, Bool.false_eq_true, Bool.true_eq_false, reduceIte, ite_true, ite_false]
      rw [← outZ_61]
      by_cases h : outZ 61 (deadP b) 61 0 κ = 61 <;> simp [h]
    · have h1 := Bool.eq_false_iff.mpr h1
      refine ⟨yint Y 1 0, Yk.thrown Y 0, ?_⟩
      unfold f_X4_dies
      simp only [hin, h0, h1, sF_Y19, gI_Y0, gR_Y1, gR_Y2, gR_Y3, gR_Y4, gR_Y5, gI_Y6, gR_Y7, gR_Y8, gR_Y9, gR_Y10, gI_Y11, gI_Y12, gR_Y13, gR_Y14, gR_Y15, gR_Y16, gR_Y17, gR_Y18, gI_Y19, gI_Y20, gI_Y21, gI_Y22, gI_Y23, gR_Y24, gR_Y25, gR_Y26, gR_Y27, gR_Y28, gI_Y29, gI_Y30, gI_Y31, gR_Y33, gR_Y34, gI_Y35, gR_Y36, cV_Y, bk_some, bind_some', zb_0, zb_1, zb_or, cc_or, kset_1, kset_21, kint_1, kint_21, kint_22, putY_moved, decide_false, Bool.false_or, if_true, if_false, not_true_eq_false, not_false_eq_true, Bool.false_eq_true, Bool.true_eq_false, reduceIte, ite_true, ite_false]
