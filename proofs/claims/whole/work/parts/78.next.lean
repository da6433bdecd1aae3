/-! PURE: next and still, at both sides -/
def nextK (k : Int32) (κ : aK) : Int32 := if inR k 0 2 = true then (if k = 0 then calledAnyK (passK 0 κ) &&& (calledAnyK κ ^^^ (-1)) else if k = 1 then κ.2.1 1 &&& ((passK 0 κ).2.1 1 ^^^ (-1)) else (passK 0 κ).2.1 2) else -1
theorem x_next (w : aW) {X : aX} (hW : WF X.1) (k : Int32) : ∃ μ, f_X3_next 0 k (putX w X) = some (nextK k X.1, putX w (xmind X μ)) := by
  unfold f_X3_next nextK
  by_cases h1 : inR k 0 2 = true
  · refine ⟨passK 0 X.1, ?_⟩
    by_cases h2 : k = 0
    · simp only [h1, h2, gR_X0, gR_X1, gR_X2, gI_X3, gR_X4, gR_X5, gR_X6, cV_X, x_think, xmind_1, xmind_0, xmind_2, xnow_0, xnow_1, xnow_2, bk_some, bind_some', zb_0, zb_1, zb_or, cc_or, N_cV, N_gI0, N_gI1, N_gI2, N_gI3, N_gR4, N_gR5, N_gR6, N_gR7, N_gR8, N_gR9, N_gR10, N_gR11, N_gR12, N_hasBeast, N_isAlive, N_calledBy, N_calledByAnybody, N_needTogether, N_workTogether, N_freeOnes, T_cV, T_gI0, T_gI1, T_gI2, T_gI3, T_gR4, T_gR5, T_gR6, T_gR7, T_gR8, T_gR9, T_gR10, T_gR11, T_gR12, T_hasBeast, T_isAlive, T_calledBy, T_calledByAnybody, T_needTogether, T_workTogether, T_freeOnes, p_within, T_passDay w (X := xmind X X.1) hW, show inR 0 0 2 = true from rfl, if_true, if_false, not_true_eq_false, not_false_eq_true, Bool.false_eq_true, Bool.true_eq_false, reduceIte, ite_true, ite_false]
    · by_cases h3 : k = 1
      · simp only [h1, h2, h3, gR_X0, gR_X1, gR_X2, gI_X3, gR_X4, gR_X5, gR_X6, cV_X, x_think, xmind_1, xmind_0, xmind_2, xnow_0, xnow_1, xnow_2, bk_some, bind_some', zb_0, zb_1, zb_or, cc_or, N_cV, N_gI0, N_gI1, N_gI2, N_gI3, N_gR4, N_gR5, N_gR6, N_gR7, N_gR8, N_gR9, N_gR10, N_gR11, N_gR12, N_hasBeast, N_isAlive, N_calledBy, N_calledByAnybody, N_needTogether, N_workTogether, N_freeOnes, T_cV, T_gI0, T_gI1, T_gI2, T_gI3, T_gR4, T_gR5, T_gR6, T_gR7, T_gR8, T_gR9, T_gR10, T_gR11, T_gR12, T_hasBeast, T_isAlive, T_calledBy, T_calledByAnybody, T_needTogether, T_workTogether, T_freeOnes, p_within, T_passDay w (X := xmind X X.1) hW, show inR 1 0 2 = true from rfl, show ¬ (1 : Int32) = 0 by decide, if_true, if_false, not_true_eq_false, not_false_eq_true, Bool.false_eq_true, Bool.true_eq_false, reduceIte, ite_true, ite_false]
      · simp only [h1, h2, h3, gR_X0, gR_X1, gR_X2, gI_X3, gR_X4, gR_X5, gR_X6, cV_X, x_think, xmind_1, xmind_0, xmind_2, xnow_0, xnow_1, xnow_2, bk_some, bind_some', zb_0, zb_1, zb_or, cc_or, N_cV, N_gI0, N_gI1, N_gI2, N_gI3, N_gR4, N_gR5, N_gR6, N_gR7, N_gR8, N_gR9, N_gR10, N_gR11, N_gR12, N_hasBeast, N_isAlive, N_calledBy, N_calledByAnybody, N_needTogether, N_workTogether, N_freeOnes, T_cV, T_gI0, T_gI1, T_gI2, T_gI3, T_gR4, T_gR5, T_gR6, T_gR7, T_gR8, T_gR9, T_gR10, T_gR11, T_gR12, T_hasBeast, T_isAlive, T_calledBy, T_calledByAnybody, T_needTogether, T_workTogether, T_freeOnes, p_within, T_passDay w (X := xmind X X.1) hW, if_true, if_false, not_true_eq_false, not_false_eq_true, Bool.false_eq_true, Bool.true_eq_false, reduceIte, ite_true, ite_false]
  · have h1 := Bool.eq_false_iff.mpr h1
    exact ⟨X.2.1, by simp only [h1, gR_X0, gR_X1, gR_X2, gI_X3, gR_X4, gR_X5, gR_X6, cV_X, x_think, xmind_1, xmind_0, xmind_2, xnow_0, xnow_1, xnow_2, bk_some, bind_some', zb_0, zb_1, zb_or, cc_or, p_within, if_true, if_false, not_true_eq_false, not_false_eq_true, Bool.false_eq_true, Bool.true_eq_false, reduceIte, ite_true, ite_false]; rfl⟩
theorem m_next (w : aW) (Y : aY) {κ : aK} (hW : WF κ) (hs : Y.1 0 = 0) (k : Int32) : ∃ Y', Yk Y Y' ∧ f_X4_next 50 k (putY w κ Y) = some (nextK k κ, putY w κ Y') := by
  have hk9 := hW.1
  unfold f_X4_next nextK
  by_cases h1 : inR k 0 2 = true
  · obtain ⟨Y0, e0, r0, hM0, hm0⟩ := m_mark w (yint Y 1 0) hk9
    obtain ⟨Y1, h11, hK, h13, ht⟩ := m_think w Y0 hk9
    have e1 : Yk Y0 Y1 := ⟨h11, h13 9 (by decide) (by decide) (by decide)⟩
    have hM : Marked Y1 κ := fun i hi => by rw [h13 10 (by decide) (by decide) (by decide)]; exact hM0 i hi
    have hs1 : Y1.1 0 = 0 := e1.1.1.trans (e0.1.1.trans hs)
    obtain ⟨Y2, e2, -, ha⟩ := k_again w (passK 0 κ) Y1 hk9 hK
    have hWp : WF (passK 0 κ) := pass_WF hW (m := 0) (by decide)
    refine ⟨Y2, (((Yk.thrown Y 0).trans e0).trans e1).trans e2, ?_⟩
    have hmv : f_X4_movedBits 50 (putY w (passK 0 κ) Y1) = some ((passK 0 κ).2.1 2, putY w (passK 0 κ) Y1) := by
      rw [m_movedBits w Y1 hWp.1, pass_1, moved_bits hW hM]
    have hin := p_in32 (x := k) (a := 0) (b := 2) (a' := 0) (b' := 2) rfl rfl
    rw [h1] at hin
    simp only [hin, m_calledAll w _ hW, m_calledAll w _ hWp, sF_Y19, gI_Y0, gR_Y1, gR_Y2, gR_Y3, gR_Y4, gR_Y5, gI_Y6, gR_Y7, gR_Y8, gR_Y9, gR_Y10, gI_Y11, gI_Y12, gR_Y13, gR_Y14, gR_Y15, gR_Y16, gR_Y17, gR_Y18, gI_Y19, gI_Y20, gI_Y21, gI_Y22, gI_Y23, gR_Y24, gR_Y25, gR_Y26, gR_Y27, gR_Y28, gI_Y29, gI_Y30, gI_Y31, gR_Y33, gR_Y34, gI_Y35, gR_Y36, cV_Y, bk_some, bind_some', zb_0, zb_1, zb_or, cc_or, kset_1, kset_21, kint_1, kint_21, kint_22, putY_moved, hm0, ht, m_dayOn0 w Y1 hW hs1, hmv, ha, h1, if_true, if_false, not_true_eq_false, not_false_eq_true, Bool.false_eq_true, Bool.true_eq_false, reduceIte, ite_true, ite_false]
    by_cases h2 : k = 0
    · simp [h2]
    · by_cases h3 : k = 1 <;> simp [h2, h3]
  · have h1 := Bool.eq_false_iff.mpr h1
    refine ⟨yint Y 1 0, Yk.thrown Y 0, ?_⟩
    simp only [p_in32 (x := k) (a := 0) (b := 2) (a' := 0) (b' := 2) rfl rfl, h1, sF_Y19, gI_Y0, gR_Y1, gR_Y2, gR_Y3, gR_Y4, gR_Y5, gI_Y6, gR_Y7, gR_Y8, gR_Y9, gR_Y10, gI_Y11, gI_Y12, gR_Y13, gR_Y14, gR_Y15, gR_Y16, gR_Y17, gR_Y18, gI_Y19, gI_Y20, gI_Y21, gI_Y22, gI_Y23, gR_Y24, gR_Y25, gR_Y26, gR_Y27, gR_Y28, gI_Y29, gI_Y30, gI_Y31, gR_Y33, gR_Y34, gI_Y35, gR_Y36, cV_Y, bk_some, bind_some', zb_0, zb_1, zb_or, cc_or, kset_1, kset_21, kint_1, kint_21, kint_22, putY_moved, if_true, if_false, not_true_eq_false, not_false_eq_true, Bool.false_eq_true, Bool.true_eq_false, reduceIte, ite_true, ite_false]
def stillD : Nat → Nat → Nat → aK → Option Nat
  | 0, _, _, _ => none
  | m + 1, d, l, κ => if (passK 0 κ).2.1 2 = 0 then (if d - l = 20 then some l else stillD m (d + 1) l (passK 0 κ)) else stillD m (d + 1) d (passK 0 κ)
def stillK (κ : aK) : Int32 := o4 (stillD 60 1 0 κ)
theorem nI_eqc {a : Nat} (ha : a < 2 ^ 31) : (nI a = 20) = (a = 20) := propext ⟨fun h => by
  have := congrArg Int32.toNatClampNeg h
  rw [nI_clamp ha, show (20 : Int32).toNatClampNeg = 20 from rfl] at this
  exact this, fun h => by rw [h]; rfl⟩
theorem nI_20 {d l : Nat} (h : l + 20 = d) : nI d - 20 = nI l := by
  subst h
  show nI (l + 20) - 20 = nI l
  rw [← nI_add]
  show nI l + 20 - 20 = nI l
  rw [Int32.add_sub_cancel]
theorem nI_sub {d l : Nat} (h : l ≤ d) : nI d - nI l = nI (d - l) := by
  obtain ⟨c, rfl⟩ : ∃ c, d = c + l := ⟨d - l, by omega⟩
  rw [Nat.add_sub_cancel, ← nI_add, Int32.add_sub_cancel]
theorem stillX (w : aW) (X : aX) : ∀ (m d l : Nat) (κ : aK) (n : Nat), d + m = 61 → m < n → l < d → d - l ≤ 20 → WF κ → ∃ μ, loop3 (c_X3_still_8 0) n (nI (d - l - 1)) (nI d) (putX w (xmind X κ)) = some (o4 (stillD m d l κ), putX w (xmind X μ))
  | 0, d, l, κ, n + 1, hm, _, _, _, _ => by
    have : d = 61 := by omega
    subst this
    refine ⟨κ, ?_⟩
    show c_X3_still_8 0 (loop3 (c_X3_still_8 0) n) (nI (61 - l - 1)) (nI 61) (putX w (xmind X κ)) = some (-4, _)
    simp only [c_X3_still_8, gt_60, if_true, if_false, not_true_eq_false, not_false_eq_true, Bool.false_eq_true, Bool.true_eq_false, reduceIte, ite_true, ite_false]
  | m + 1, d, l, κ, n + 1, hm, hn, hl, hdl, hW => by
    have hW' : WF (passK 0 κ) := pass_WF hW (m := 0) (by decide)
    show ∃ μ, c_X3_still_8 0 (loop3 (c_X3_still_8 0) n) (nI (d - l - 1)) (nI d) (putX w (xmind X κ)) = _
    unfold stillD
    by_cases h : (passK 0 κ).2.1 2 = 0
    · rw [if_pos h]
      have e1 : d - l - 1 + 1 = d - l := by omega
      by_cases h20 : d - l = 20
      · refine ⟨passK 0 κ, ?_⟩
        rw [if_pos h20]
        simp only [c_X3_still_8, c_X3_still_39, le_60 (show d ≤ 60 by omega), gR_X0, gR_X1, gR_X2, gI_X3, gR_X4, gR_X5, gR_X6, cV_X, x_think, xmind_1, xmind_0, xmind_2, xnow_0, xnow_1, xnow_2, bk_some, bind_some', zb_0, zb_1, zb_or, cc_or, T_cV, T_gI0, T_gI1, T_gI2, T_gI3, T_gR4, T_gR5, T_gR6, T_gR7, T_gR8, T_gR9, T_gR10, T_gR11, T_gR12, T_hasBeast, T_isAlive, T_calledBy, T_calledByAnybody, T_needTogether, T_workTogether, T_freeOnes, T_passDay w (X := xmind X κ) hW, h, nI_1, e1, nI_eqc (show d - l < 2 ^ 31 by omega), h20, nI_20 (show l + 20 = d by omega), if_true, if_false, not_true_eq_false, not_false_eq_true, Bool.false_eq_true, Bool.true_eq_false, reduceIte, ite_true, ite_false]
        rfl
      · obtain ⟨μ, hμ⟩ := stillX w X m (d + 1) l (passK 0 κ) n (by omega) (by omega) (by omega) (by omega) hW'
        refine ⟨μ, ?_⟩
        rw [if_neg h20]
        rw [show d + 1 - l - 1 = d - l by omega] at hμ
        simp only [c_X3_still_8, c_X3_still_39, le_60 (show d ≤ 60 by omega), gR_X0, gR_X1, gR_X2, gI_X3, gR_X4, gR_X5, gR_X6, cV_X, x_think, xmind_1, xmind_0, xmind_2, xnow_0, xnow_1, xnow_2, bk_some, bind_some', zb_0, zb_1, zb_or, cc_or, T_cV, T_gI0, T_gI1, T_gI2, T_gI3, T_gR4, T_gR5, T_gR6, T_gR7, T_gR8, T_gR9, T_gR10, T_gR11, T_gR12, T_hasBeast, T_isAlive, T_calledBy, T_calledByAnybody, T_needTogether, T_workTogether, T_freeOnes, T_passDay w (X := xmind X κ) hW, h, nI_1, e1, nI_eqc (show d - l < 2 ^ 31 by omega), h20, if_true, if_false, not_true_eq_false, not_false_eq_true, Bool.false_eq_true, Bool.true_eq_false, reduceIte, ite_true, ite_false]
        exact hμ
    · rw [if_neg h]
      obtain ⟨μ, hμ⟩ := stillX w X m (d + 1) d (passK 0 κ) n (by omega) (by omega) (by omega) (by omega) hW'
      refine ⟨μ, ?_⟩
      rw [show d + 1 - d - 1 = 0 by omega] at hμ
      simp only [c_X3_still_8, c_X3_still_39, le_60 (show d ≤ 60 by omega), gR_X0, gR_X1, gR_X2, gI_X3, gR_X4, gR_X5, gR_X6, cV_X, x_think, xmind_1, xmind_0, xmind_2, xnow_0, xnow_1, xnow_2, bk_some, bind_some', zb_0, zb_1, zb_or, cc_or, T_cV, T_gI0, T_gI1, T_gI2, T_gI3, T_gR4, T_gR5, T_gR6, T_gR7, T_gR8, T_gR9, T_gR10, T_gR11, T_gR12, T_hasBeast, T_isAlive, T_calledBy, T_calledByAnybody, T_needTogether, T_workTogether, T_freeOnes, T_passDay w (X := xmind X κ) hW, h, nI_1, show ¬ (0 : Int32) = 20 by decide, if_true, if_false, not_true_eq_false, not_false_eq_true, Bool.false_eq_true, Bool.true_eq_false, reduceIte, ite_true, ite_false]
      exact hμ
theorem x_still (w : aW) {X : aX} (hW : WF X.1) : ∃ μ, f_X3_still 0 (putX w X) = some (stillK X.1, putX w (xmind X μ)) := by
  unfold f_X3_still
  obtain ⟨μ, hμ⟩ := stillX w X 60 1 0 X.1 a_fuel rfl (by decide) (by decide) (by decide) hW
  refine ⟨μ, ?_⟩
  simp only [gR_X0, gR_X1, gR_X2, gI_X3, gR_X4, gR_X5, gR_X6, cV_X, x_think, xmind_1, xmind_0, xmind_2, xnow_0, xnow_1, xnow_2, bk_some, bind_some', zb_0, zb_1, zb_or, cc_or, if_true, if_false, not_true_eq_false, not_false_eq_true, Bool.false_eq_true, Bool.true_eq_false, reduceIte, ite_true, ite_false]
  exact hμ
theorem m_mark' (w : aW) (Y : aY) {κ κ0 : aK} (hk9 : κ.1 ≤ 9) (hK : Kept Y 8 κ0) : ∃ Y', Yk Y Y' ∧ Kept Y' 8 κ0 ∧ Marked Y' κ ∧ f_X4_mark 50 (putY w κ Y) = some ((), putY w κ Y') := by
  obtain ⟨Y', h1, h2, h3, h4⟩ := m_mark w Y hk9
  refine ⟨Y', h1, ?_, h3, h4⟩
  unfold Kept
  rw [h2 8 (by decide)]
  exact hK
theorem loop4_s {α0 α1 α2 β : Type} (B : (α0 → α1 → α2 → aW → Option β) → α0 → α1 → α2 → aW → Option β) (n : Nat) : loop4 B (n + 1) = B (loop4 B n) := rfl
theorem stillE (w : aW) {κ0 : aK} (hk9 : κ0.1 ≤ 9) (k : Int32 → Int32 → Int32 → aW → Option (Int32 × aW)) {d l : Nat} (κ : aK) (Y : aY) (hl : l < 2 ^ 31) (hK : Kept Y 8 κ0) : ∃ Y', Yk Y Y' ∧ c_X4_still_16 50 k (nI l) (nI l) (nI d) (putY w κ Y) = some (nI l, putY w κ0 Y') := by
  obtain ⟨Y2, e2, -, ha⟩ := k_again w κ Y hk9 hK
  refine ⟨Y2, e2, ?_⟩
  by_cases hd' : 60 < nI d
  · simp only [c_X4_still_16, hd', gI_Y0, gR_Y1, gR_Y2, gR_Y3, gR_Y4, gR_Y5, gI_Y6, gR_Y7, gR_Y8, gR_Y9, gR_Y10, gI_Y11, gI_Y12, gR_Y13, gR_Y14, gR_Y15, gR_Y16, gR_Y17, gR_Y18, gI_Y19, gI_Y20, gI_Y21, gI_Y22, gI_Y23, gR_Y24, gR_Y25, gR_Y26, gR_Y27, gR_Y28, gI_Y29, gI_Y30, gI_Y31, gR_Y33, gR_Y34, gI_Y35, gR_Y36, cV_Y, bk_some, bind_some', zb_0, zb_1, zb_or, cc_or, kset_1, kset_21, kint_1, kint_21, kint_22, putY_moved, ha, if_true, if_false, not_true_eq_false, not_false_eq_true, Bool.false_eq_true, Bool.true_eq_false, reduceIte, ite_true, ite_false]
  · simp only [c_X4_still_16, hd', nI_pos' hl, gI_Y0, gR_Y1, gR_Y2, gR_Y3, gR_Y4, gR_Y5, gI_Y6, gR_Y7, gR_Y8, gR_Y9, gR_Y10, gI_Y11, gI_Y12, gR_Y13, gR_Y14, gR_Y15, gR_Y16, gR_Y17, gR_Y18, gI_Y19, gI_Y20, gI_Y21, gI_Y22, gI_Y23, gR_Y24, gR_Y25, gR_Y26, gR_Y27, gR_Y28, gI_Y29, gI_Y30, gI_Y31, gR_Y33, gR_Y34, gI_Y35, gR_Y36, cV_Y, bk_some, bind_some', zb_0, zb_1, zb_or, cc_or, kset_1, kset_21, kint_1, kint_21, kint_22, putY_moved, ha, if_true, if_false, not_true_eq_false, not_false_eq_true, Bool.false_eq_true, Bool.true_eq_false, reduceIte, ite_true, ite_false]
theorem stillS (w : aW) {κ0 κ : aK} {Y : aY} {d l : Nat} (hd : d ≤ 60) (hl : l < d) (hW : WF κ) (hs : Y.1 0 = 0) (hK : Kept Y 8 κ0) : ∃ Y', Yk Y Y' ∧ Kept Y' 8 κ0 ∧ ∀ k, c_X4_still_16 50 k (nI l) (-4) (nI d) (putY w κ Y) = if (passK 0 κ).2.1 2 = 0 then (if d - l = 20 then k (nI l) (nI l) (nI (d + 1)) (putY w (passK 0 κ) Y') else k (nI l) (-4) (nI (d + 1)) (putY w (passK 0 κ) Y')) else k (nI d) (-4) (nI (d + 1)) (putY w (passK 0 κ) Y') := by
  have hW' : WF (passK 0 κ) := pass_WF hW (m := 0) (by decide)
  obtain ⟨Y1, e1, hK1, hM, hm1⟩ := m_mark' w Y hW.1 hK
  have hs1 : Y1.1 0 = 0 := e1.1.1.trans hs
  have hmv : f_X4_isMoved 50 (putY w (passK 0 κ) Y1) = some (zb (!decide ((passK 0 κ).2.1 2 = 0)), putY w (passK 0 κ) Y1) := by
    rw [m_isMoved w Y1 hW'.1, pass_1, moved_any hW hM]
  refine ⟨Y1, e1, hK1, fun k => ?_⟩
  by_cases h : (passK 0 κ).2.1 2 = 0
  · rw [decide_eq_true h, Bool.not_true] at hmv
    rw [if_pos h]
    by_cases h20 : d - l = 20
    · rw [if_pos h20]
      simp only [c_X4_still_16, c_X4_still_46, le_60 hd, m4_neg, gI_Y0, gR_Y1, gR_Y2, gR_Y3, gR_Y4, gR_Y5, gI_Y6, gR_Y7, gR_Y8, gR_Y9, gR_Y10, gI_Y11, gI_Y12, gR_Y13, gR_Y14, gR_Y15, gR_Y16, gR_Y17, gR_Y18, gI_Y19, gI_Y20, gI_Y21, gI_Y22, gI_Y23, gR_Y24, gR_Y25, gR_Y26, gR_Y27, gR_Y28, gI_Y29, gI_Y30, gI_Y31, gR_Y33, gR_Y34, gI_Y35, gR_Y36, cV_Y, bk_some, bind_some', zb_0, zb_1, zb_or, cc_or, kset_1, kset_21, kint_1, kint_21, kint_22, putY_moved, hm1, m_dayOn0 w Y1 hW hs1, hmv, nI_1, nI_sub (show l ≤ d by omega), nI_eqc (show d - l < 2 ^ 31 by omega), h20, show nI 20 = 20 from rfl, if_true, if_false, not_true_eq_false, not_false_eq_true, Bool.false_eq_true, Bool.true_eq_false, reduceIte, ite_true, ite_false]
    · rw [if_neg h20]
      simp only [c_X4_still_16, c_X4_still_46, le_60 hd, m4_neg, gI_Y0, gR_Y1, gR_Y2, gR_Y3, gR_Y4, gR_Y5, gI_Y6, gR_Y7, gR_Y8, gR_Y9, gR_Y10, gI_Y11, gI_Y12, gR_Y13, gR_Y14, gR_Y15, gR_Y16, gR_Y17, gR_Y18, gI_Y19, gI_Y20, gI_Y21, gI_Y22, gI_Y23, gR_Y24, gR_Y25, gR_Y26, gR_Y27, gR_Y28, gI_Y29, gI_Y30, gI_Y31, gR_Y33, gR_Y34, gI_Y35, gR_Y36, cV_Y, bk_some, bind_some', zb_0, zb_1, zb_or, cc_or, kset_1, kset_21, kint_1, kint_21, kint_22, putY_moved, hm1, m_dayOn0 w Y1 hW hs1, hmv, nI_1, nI_sub (show l ≤ d by omega), nI_eqc (show d - l < 2 ^ 31 by omega), h20, if_true, if_false, not_true_eq_false, not_false_eq_true, Bool.false_eq_true, Bool.true_eq_false, reduceIte, ite_true, ite_false]
  · rw [decide_eq_false h, Bool.not_false] at hmv
    rw [if_neg h]
    simp only [c_X4_still_16, c_X4_still_46, le_60 hd, m4_neg, gI_Y0, gR_Y1, gR_Y2, gR_Y3, gR_Y4, gR_Y5, gI_Y6, gR_Y7, gR_Y8, gR_Y9, gR_Y10, gI_Y11, gI_Y12, gR_Y13, gR_Y14, gR_Y15, gR_Y16, gR_Y17, gR_Y18, gI_Y19, gI_Y20, gI_Y21, gI_Y22, gI_Y23, gR_Y24, gR_Y25, gR_Y26, gR_Y27, gR_Y28, gI_Y29, gI_Y30, gI_Y31, gR_Y33, gR_Y34, gI_Y35, gR_Y36, cV_Y, bk_some, bind_some', zb_0, zb_1, zb_or, cc_or, kset_1, kset_21, kint_1, kint_21, kint_22, putY_moved, hm1, m_dayOn0 w Y1 hW hs1, hmv, nI_1, nI_sub (Nat.le_refl d), Nat.sub_self, show ¬ nI 0 = 20 by decide, if_true, if_false, not_true_eq_false, not_false_eq_true, Bool.false_eq_true, Bool.true_eq_false, reduceIte, ite_true, ite_false]
theorem stillY (w : aW) {κ0 : aK} (hk9 : κ0.1 ≤ 9) : ∀ (m d l : Nat) (κ : aK) (Y : aY) (n : Nat), d + m = 61 → m < n → l < d → WF κ → Y.1 0 = 0 → Kept Y 8 κ0 → ∃ Y', Yk Y Y' ∧ loop4 (c_X4_still_16 50) n (nI l) (-4) (nI d) (putY w κ Y) = some (o4 (stillD m d l κ), putY w κ0 Y')
  | 0, d, l, κ, Y, n + 1, hm, _, _, _, _, hK => by
    have : d = 61 := by omega
    subst this
    obtain ⟨Y2, e2, -, ha⟩ := k_again w κ Y hk9 hK
    refine ⟨Y2, e2, ?_⟩
    rw [loop4_s]
    simp only [c_X4_still_16, gt_60, gI_Y0, gR_Y1, gR_Y2, gR_Y3, gR_Y4, gR_Y5, gI_Y6, gR_Y7, gR_Y8, gR_Y9, gR_Y10, gI_Y11, gI_Y12, gR_Y13, gR_Y14, gR_Y15, gR_Y16, gR_Y17, gR_Y18, gI_Y19, gI_Y20, gI_Y21, gI_Y22, gI_Y23, gR_Y24, gR_Y25, gR_Y26, gR_Y27, gR_Y28, gI_Y29, gI_Y30, gI_Y31, gR_Y33, gR_Y34, gI_Y35, gR_Y36, cV_Y, bk_some, bind_some', zb_0, zb_1, zb_or, cc_or, kset_1, kset_21, kint_1, kint_21, kint_22, putY_moved, ha, if_true, if_false, not_true_eq_false, not_false_eq_true, Bool.false_eq_true, Bool.true_eq_false, reduceIte, ite_true, ite_false]
    rfl
  | m + 1, d, l, κ, Y, n + 1, hm, hn, hl, hW, hs, hK => by
    have hW' : WF (passK 0 κ) := pass_WF hW (m := 0) (by decide)
    obtain ⟨Y1, e1, hK1, hb⟩ := stillS w (d := d) (l := l) (by omega) hl hW hs hK
    have hs1 : Y1.1 0 = 0 := e1.1.1.trans hs
    rw [loop4_s, hb]
    unfold stillD
    by_cases h : (passK 0 κ).2.1 2 = 0
    · rw [if_pos h, if_pos h]
      by_cases h20 : d - l = 20
      · rw [if_pos h20, if_pos h20]
        obtain ⟨n', hn'⟩ : ∃ n', n = n' + 1 := ⟨n - 1, by omega⟩
        obtain ⟨Y2, e2, hr⟩ := stillE w hk9 (loop4 (c_X4_still_16 50) n') (d := d + 1) (l := l) (passK 0 κ) Y1 (by omega) hK1
        refine ⟨Y2, e1.trans e2, ?_⟩
        rw [hn', loop4_s]
        exact hr
      · rw [if_neg h20, if_neg h20]
        obtain ⟨Y2, e2, hr⟩ := stillY w hk9 m (d + 1) l (passK 0 κ) Y1 n (by omega) (by omega) (by omega) hW' hs1 hK1
        exact ⟨Y2, e1.trans e2, hr⟩
    · rw [if_neg h, if_neg h]
      obtain ⟨Y2, e2, hr⟩ := stillY w hk9 m (d + 1) d (passK 0 κ) Y1 n (by omega) (by omega) (by omega) hW' hs1 hK1
      exact ⟨Y2, e1.trans e2, hr⟩
theorem m_still (w : aW) (Y : aY) {κ : aK} (hW : WF κ) (hs : Y.1 0 = 0) : ∃ Y', Yk Y Y' ∧ f_X4_still 50 (putY w κ Y) = some (stillK κ, putY w κ Y') := by
  unfold f_X4_still
  obtain ⟨Y1, e1, hK, ht⟩ := k_think w (yint Y 1 0) hW.1
  have hs1 : Y1.1 0 = 0 := e1.1.1.trans hs
  obtain ⟨Y2, e2, hr⟩ := stillY w hW.1 60 1 0 κ Y1 a_fuel rfl (by decide) (by decide) hW hs1 hK
  refine ⟨Y2, ((Yk.thrown Y 0).trans e1).trans e2, ?_⟩
  simp only [sF_Y19, gI_Y0, gR_Y1, gR_Y2, gR_Y3, gR_Y4, gR_Y5, gI_Y6, gR_Y7, gR_Y8, gR_Y9, gR_Y10, gI_Y11, gI_Y12, gR_Y13, gR_Y14, gR_Y15, gR_Y16, gR_Y17, gR_Y18, gI_Y19, gI_Y20, gI_Y21, gI_Y22, gI_Y23, gR_Y24, gR_Y25, gR_Y26, gR_Y27, gR_Y28, gI_Y29, gI_Y30, gI_Y31, gR_Y33, gR_Y34, gI_Y35, gR_Y36, cV_Y, bk_some, bind_some', zb_0, zb_1, zb_or, cc_or, kset_1, kset_21, kint_1, kint_21, kint_22, putY_moved, ht, if_true, if_false, not_true_eq_false, not_false_eq_true, Bool.false_eq_true, Bool.true_eq_false, reduceIte, ite_true, ite_false]
  exact hr
