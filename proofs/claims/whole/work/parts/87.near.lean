/-! PURE: nearest, at both sides -/
def nearestK (x : Int32) (κ : aK) : Int32 := if inR x 0 (nI κ.1 - 1) = true then (if bitB (κ.2.1 1) x = true then nI (nearK κ (ix x)) else -3) else -1
theorem N_nearestTo (w : aW) (X : aX) {b : Nat} (hb : b < 9) : f_X0_nearestTo 1 (nI b) (putX w X) = some (nI (nearK X.1 b), putX w X) := by
  rw [X_now w X]; exact p_nearestTo d10 _ hb
theorem x_nearest (w : aW) {X : aX} (hW : WF X.1) (x : Int32) : f_X3_nearest 0 x (putX w X) = some (nearestK x X.1, putX w X) := by
  unfold f_X3_nearest nearestK
  by_cases h1 : inR x 0 (nI X.1.1 - 1) = true
  · obtain ⟨b, hb, hx⟩ := inB hW.1 h1
    subst hx
    have hb9 : b < 9 := by have := hW.1; omega
    by_cases h2 : bitB (X.1.2.1 1) (nI b) = true
    · simp only [h1, h2, gR_X0, gR_X1, gR_X2, gI_X3, gR_X4, gR_X5, gR_X6, cV_X, x_think, xmind_1, xmind_0, xmind_2, xnow_0, xnow_1, xnow_2, bk_some, bind_some', zb_0, zb_1, zb_or, cc_or, N_cV, N_gI0, N_gI1, N_gI2, N_gI3, N_gR4, N_gR5, N_gR6, N_gR7, N_gR8, N_gR9, N_gR10, N_gR11, N_gR12, N_hasBeast, N_isAlive, N_calledBy, N_calledByAnybody, N_needTogether, N_workTogether, N_freeOnes, N_nearestTo w X hb9, ix_nI (show b < 2 ^ 31 by omega), if_true, if_false, not_true_eq_false, not_false_eq_true, Bool.false_eq_true, Bool.true_eq_false, reduceIte, ite_true, ite_false]
    · have h2 := Bool.eq_false_iff.mpr h2
      simp only [h1, h2, gR_X0, gR_X1, gR_X2, gI_X3, gR_X4, gR_X5, gR_X6, cV_X, x_think, xmind_1, xmind_0, xmind_2, xnow_0, xnow_1, xnow_2, bk_some, bind_some', zb_0, zb_1, zb_or, cc_or, N_cV, N_gI0, N_gI1, N_gI2, N_gI3, N_gR4, N_gR5, N_gR6, N_gR7, N_gR8, N_gR9, N_gR10, N_gR11, N_gR12, N_hasBeast, N_isAlive, N_calledBy, N_calledByAnybody, N_needTogether, N_workTogether, N_freeOnes, if_true, if_false, not_true_eq_false, not_false_eq_true, Bool.false_eq_true, Bool.true_eq_false, reduceIte, ite_true, ite_false]
  · have h1 := Bool.eq_false_iff.mpr h1
    simp only [h1, gR_X0, gR_X1, gR_X2, gI_X3, gR_X4, gR_X5, gR_X6, cV_X, x_think, xmind_1, xmind_0, xmind_2, xnow_0, xnow_1, xnow_2, bk_some, bind_some', zb_0, zb_1, zb_or, cc_or, N_cV, N_gI0, N_gI1, N_gI2, N_gI3, N_gR4, N_gR5, N_gR6, N_gR7, N_gR8, N_gR9, N_gR10, N_gR11, N_gR12, N_hasBeast, N_isAlive, N_calledBy, N_calledByAnybody, N_needTogether, N_workTogether, N_freeOnes, if_true, if_false, not_true_eq_false, not_false_eq_true, Bool.false_eq_true, Bool.true_eq_false, reduceIte, ite_true, ite_false]
theorem m_nearest (w : aW) (Y : aY) {κ : aK} (hW : WF κ) (x : Int32) : f_X4_nearest 50 x (putY w κ Y) = some (nearestK x κ, putY w κ (yint Y 1 0)) := by
  have hk9 := hW.1
  unfold f_X4_nearest nearestK
  by_cases h1 : inR x 0 (nI κ.1 - 1) = true
  · obtain ⟨b, hb, hx⟩ := inB hk9 h1
    subst hx
    by_cases h2 : bitB (κ.2.1 1) (nI b) = true
    · simp only [h1, h2, m_isBeast, p_hasBit, sF_Y19, gI_Y0, gR_Y1, gR_Y2, gR_Y3, gR_Y4, gR_Y5, gI_Y6, gR_Y7, gR_Y8, gR_Y9, gR_Y10, gI_Y11, gI_Y12, gR_Y13, gR_Y14, gR_Y15, gR_Y16, gR_Y17, gR_Y18, gI_Y19, gI_Y20, gI_Y21, gI_Y22, gI_Y23, gR_Y24, gR_Y25, gR_Y26, gR_Y27, gR_Y28, gI_Y29, gI_Y30, gI_Y31, gR_Y33, gR_Y34, gI_Y35, gR_Y36, cV_Y, bk_some, bind_some', zb_0, zb_1, zb_or, cc_or, kset_1, kset_21, kint_1, kint_21, kint_22, putY_moved, m_nearestOf w (yint Y 1 0) hW hb, ix_nI (show b < 2 ^ 31 by omega), if_true, if_false, not_true_eq_false, not_false_eq_true, Bool.false_eq_true, Bool.true_eq_false, reduceIte, ite_true, ite_false]
    · have h2 := Bool.eq_false_iff.mpr h2
      simp only [h1, h2, m_isBeast, p_hasBit, sF_Y19, gI_Y0, gR_Y1, gR_Y2, gR_Y3, gR_Y4, gR_Y5, gI_Y6, gR_Y7, gR_Y8, gR_Y9, gR_Y10, gI_Y11, gI_Y12, gR_Y13, gR_Y14, gR_Y15, gR_Y16, gR_Y17, gR_Y18, gI_Y19, gI_Y20, gI_Y21, gI_Y22, gI_Y23, gR_Y24, gR_Y25, gR_Y26, gR_Y27, gR_Y28, gI_Y29, gI_Y30, gI_Y31, gR_Y33, gR_Y34, gI_Y35, gR_Y36, cV_Y, bk_some, bind_some', zb_0, zb_1, zb_or, cc_or, kset_1, kset_21, kint_1, kint_21, kint_22, putY_moved, if_true, if_false, not_true_eq_false, not_false_eq_true, Bool.false_eq_true, Bool.true_eq_false, reduceIte, ite_true, ite_false]
  · have h1 := Bool.eq_false_iff.mpr h1
    simp only [h1, m_isBeast, sF_Y19, gI_Y0, gR_Y1, gR_Y2, gR_Y3, gR_Y4, gR_Y5, gI_Y6, gR_Y7, gR_Y8, gR_Y9, gR_Y10, gI_Y11, gI_Y12, gR_Y13, gR_Y14, gR_Y15, gR_Y16, gR_Y17, gR_Y18, gI_Y19, gI_Y20, gI_Y21, gI_Y22, gI_Y23, gR_Y24, gR_Y25, gR_Y26, gR_Y27, gR_Y28, gI_Y29, gI_Y30, gI_Y31, gR_Y33, gR_Y34, gI_Y35, gR_Y36, cV_Y, bk_some, bind_some', zb_0, zb_1, zb_or, cc_or, kset_1, kset_21, kint_1, kint_21, kint_22, putY_moved, if_true, if_false, not_true_eq_false, not_false_eq_true, Bool.false_eq_true, Bool.true_eq_false, reduceIte, ite_true, ite_false]
