/-! PURE: named at the model; who has moved -/
theorem namedY (w : aW) {κ0 : aK} {b : Nat} (k : Int32) (hk9 : κ0.1 ≤ 9) (hb : b < κ0.1) :
    ∀ (m d : Nat) (κ : aK) (Y : aY) (n : Nat), d + m = 61 → m < n → WF κ → κ.1 = κ0.1 → Y.1 0 = 0 → Kept Y 8 κ0 → ∃ Y', Yk Y Y' ∧ loop4 (c_X4_named_39 50 (nI b) k) n (-4) (-4) (nI d) (putY w κ Y) = some (outD (fun κ => !decide (κ.2.2 4 b = -4)) (fun d κ => if k = 0 then nI d else κ.2.2 4 b) m d κ, putY w κ0 Y')
  | 0, d, κ, Y, n + 1, hm, _, _, _, _, hK => by
    have : d = 61 := by omega
    subst this
    obtain ⟨Y2, e2, -, ha⟩ := k_again w κ Y hk9 hK
    refine ⟨Y2, e2, ?_⟩
    show c_X4_named_39 50 (nI b) k (loop4 (c_X4_named_39 50 (nI b) k) n) (-4) (-4) (nI 61) (putY w κ Y) = some (-4, putY w κ0 Y2)
    simp only [c_X4_named_39, gt_60, gI_Y0, gR_Y1, gR_Y2, gR_Y3, gR_Y4, gR_Y5, gI_Y6, gR_Y7, gR_Y8, gR_Y9, gR_Y10, gI_Y11, gI_Y12, gR_Y13, gR_Y14, gR_Y15, gR_Y16, gR_Y17, gR_Y18, gI_Y19, gI_Y20, gI_Y21, gI_Y22, gI_Y23, gR_Y24, gR_Y25, gR_Y26, gR_Y27, gR_Y28, gI_Y29, gI_Y30, gI_Y31, gR_Y33, gR_Y34, gI_Y35, gR_Y36, cV_Y, bk_some, bind_some', zb_0, zb_1, zb_or, cc_or, kset_1, kset_21, kint_1, kint_21, kint_22, putY_moved, ha, if_true, if_false, not_true_eq_false, not_false_eq_true, Bool.false_eq_true, Bool.true_eq_false, reduceIte, ite_true, ite_false]
    by_cases h : k = 0 <;> simp [h]
  | m + 1, d, κ, Y, n + 1, hm, hn, hW, hk, hs, hK => by
    show ∃ Y', Yk Y Y' ∧ c_X4_named_39 50 (nI b) k (loop4 (c_X4_named_39 50 (nI b) k) n) (-4) (-4) (nI d) (putY w κ Y) = _
    have hb' : b < κ.1 := by omega
    have hWp := pass_WF hW (m := 0) (by decide)
    by_cases h : κ.2.2 4 b = -4
    · obtain ⟨Y2, e2, hr⟩ := namedY w k hk9 hb m (d + 1) (passK 0 κ) Y n (by omega) (by omega) hWp ((pass_1 0 κ).trans hk) hs hK
      refine ⟨Y2, e2, ?_⟩
      rw [out_no (by rw [decide_eq_true h]; rfl)]
      simp only [c_X4_named_39, c_X4_named_66, le_60 (show d ≤ 60 by omega), m4_neg, m4_lt, gI_Y0, gR_Y1, gR_Y2, gR_Y3, gR_Y4, gR_Y5, gI_Y6, gR_Y7, gR_Y8, gR_Y9, gR_Y10, gI_Y11, gI_Y12, gR_Y13, gR_Y14, gR_Y15, gR_Y16, gR_Y17, gR_Y18, gI_Y19, gI_Y20, gI_Y21, gI_Y22, gI_Y23, gR_Y24, gR_Y25, gR_Y26, gR_Y27, gR_Y28, gI_Y29, gI_Y30, gI_Y31, gR_Y33, gR_Y34, gI_Y35, gR_Y36, cV_Y, bk_some, bind_some', zb_0, zb_1, zb_or, cc_or, kset_1, kset_21, kint_1, kint_21, kint_22, putY_moved, gA_Y55 w Y hW.1 hb', h, m_dayOn0 w Y hW hs, nI_1, if_true, if_false, not_true_eq_false, not_false_eq_true, Bool.false_eq_true, Bool.true_eq_false, reduceIte, ite_true, ite_false]
      exact hr
    · obtain ⟨n', rfl⟩ : ∃ n', n = n' + 1 := ⟨n - 1, by omega⟩
      have hlt : ¬ κ.2.2 4 b < 0 := by rw [neg_m4 hW (by have := hW.1; omega)]; exact h
      obtain ⟨Y2, e2, -, ha⟩ := k_again w (passK 0 κ) Y hk9 hK
      refine ⟨Y2, e2, ?_⟩
      rw [out_yes (by rw [decide_eq_false h]; rfl)]
      simp only [c_X4_named_39, c_X4_named_66, le_60 (show d ≤ 60 by omega), m4_neg, m4_lt, gI_Y0, gR_Y1, gR_Y2, gR_Y3, gR_Y4, gR_Y5, gI_Y6, gR_Y7, gR_Y8, gR_Y9, gR_Y10, gI_Y11, gI_Y12, gR_Y13, gR_Y14, gR_Y15, gR_Y16, gR_Y17, gR_Y18, gI_Y19, gI_Y20, gI_Y21, gI_Y22, gI_Y23, gR_Y24, gR_Y25, gR_Y26, gR_Y27, gR_Y28, gI_Y29, gI_Y30, gI_Y31, gR_Y33, gR_Y34, gI_Y35, gR_Y36, cV_Y, bk_some, bind_some', zb_0, zb_1, zb_or, cc_or, kset_1, kset_21, kint_1, kint_21, kint_22, putY_moved, gA_Y55 w Y hW.1 hb', hlt, m_dayOn0 w Y hW hs, nI_1, if_true, if_false, not_true_eq_false, not_false_eq_true, Bool.false_eq_true, Bool.true_eq_false, reduceIte, ite_true, ite_false]
      show c_X4_named_39 50 (nI b) k (loop4 (c_X4_named_39 50 (nI b) k) n') (nI d) (κ.2.2 4 b) (nI (d + 1)) (putY w (passK 0 κ) Y) = _
      by_cases hd' : 60 < nI (d + 1)
      · simp only [c_X4_named_39, hd', gI_Y0, gR_Y1, gR_Y2, gR_Y3, gR_Y4, gR_Y5, gI_Y6, gR_Y7, gR_Y8, gR_Y9, gR_Y10, gI_Y11, gI_Y12, gR_Y13, gR_Y14, gR_Y15, gR_Y16, gR_Y17, gR_Y18, gI_Y19, gI_Y20, gI_Y21, gI_Y22, gI_Y23, gR_Y24, gR_Y25, gR_Y26, gR_Y27, gR_Y28, gI_Y29, gI_Y30, gI_Y31, gR_Y33, gR_Y34, gI_Y35, gR_Y36, cV_Y, bk_some, bind_some', zb_0, zb_1, zb_or, cc_or, kset_1, kset_21, kint_1, kint_21, kint_22, putY_moved, ha, if_true, if_false, not_true_eq_false, not_false_eq_true, Bool.false_eq_true, Bool.true_eq_false, reduceIte, ite_true, ite_false]
        by_cases h : k = 0 <;> simp [h]
      · simp only [c_X4_named_39, hd', nI_pos' (show d < 2 ^ 31 by omega), gI_Y0, gR_Y1, gR_Y2, gR_Y3, gR_Y4, gR_Y5, gI_Y6, gR_Y7, gR_Y8, gR_Y9, gR_Y10, gI_Y11, gI_Y12, gR_Y13, gR_Y14, gR_Y15, gR_Y16, gR_Y17, gR_Y18, gI_Y19, gI_Y20, gI_Y21, gI_Y22, gI_Y23, gR_Y24, gR_Y25, gR_Y26, gR_Y27, gR_Y28, gI_Y29, gI_Y30, gI_Y31, gR_Y33, gR_Y34, gI_Y35, gR_Y36, cV_Y, bk_some, bind_some', zb_0, zb_1, zb_or, cc_or, kset_1, kset_21, kint_1, kint_21, kint_22, putY_moved, ha, if_true, if_false, not_true_eq_false, not_false_eq_true, Bool.false_eq_true, Bool.true_eq_false, reduceIte, ite_true, ite_false]
        by_cases h : k = 0 <;> simp [h]
theorem m_named (w : aW) (Y : aY) {κ : aK} (hW : WF κ) (hs : Y.1 0 = 0) (x k : Int32) : ∃ Y', Yk Y Y' ∧ f_X4_named 50 x k (putY w κ Y) = some (namedK x k κ, putY w κ Y') := by
  have hk9 := hW.1
  unfold f_X4_named namedK
  by_cases h1 : inR x 0 (nI κ.1 - 1) = true
  · by_cases h2 : inR k 0 1 = true
    · obtain ⟨b, hb, hx⟩ := inB hk9 h1
      subst hx
      obtain ⟨Y1, e1, hK, ht⟩ := k_think w (yint Y 1 0) hk9
      have hs1 : Y1.1 0 = 0 := e1.1.1.trans hs
      obtain ⟨Y2, e2, hl⟩ := namedY w k hk9 hb 61 0 κ Y1 a_fuel rfl (by decide) hW rfl hs1 hK
      refine ⟨Y2, ((Yk.thrown Y 0).trans e1).trans e2, ?_⟩
      simp only [p_in32 (x := k) (a := 0) (b := 1) (a' := 0) (b' := 1) rfl rfl, h1, h2, m_isBeast, sF_Y19, gI_Y0, gR_Y1, gR_Y2, gR_Y3, gR_Y4, gR_Y5, gI_Y6, gR_Y7, gR_Y8, gR_Y9, gR_Y10, gI_Y11, gI_Y12, gR_Y13, gR_Y14, gR_Y15, gR_Y16, gR_Y17, gR_Y18, gI_Y19, gI_Y20, gI_Y21, gI_Y22, gI_Y23, gR_Y24, gR_Y25, gR_Y26, gR_Y27, gR_Y28, gI_Y29, gI_Y30, gI_Y31, gR_Y33, gR_Y34, gI_Y35, gR_Y36, cV_Y, bk_some, bind_some', zb_0, zb_1, zb_or, cc_or, kset_1, kset_21, kint_1, kint_21, kint_22, putY_moved, ht, ix_nI (show b < 2 ^ 31 by omega), if_true, if_false, not_true_eq_false, not_false_eq_true, Bool.false_eq_true, Bool.true_eq_false, reduceIte, ite_true, ite_false]
      exact hl
    · have h2 := Bool.eq_false_iff.mpr h2
      refine ⟨yint Y 1 0, Yk.thrown Y 0, ?_⟩
      simp only [p_in32 (x := k) (a := 0) (b := 1) (a' := 0) (b' := 1) rfl rfl, h1, h2, m_isBeast, sF_Y19, gI_Y0, gR_Y1, gR_Y2, gR_Y3, gR_Y4, gR_Y5, gI_Y6, gR_Y7, gR_Y8, gR_Y9, gR_Y10, gI_Y11, gI_Y12, gR_Y13, gR_Y14, gR_Y15, gR_Y16, gR_Y17, gR_Y18, gI_Y19, gI_Y20, gI_Y21, gI_Y22, gI_Y23, gR_Y24, gR_Y25, gR_Y26, gR_Y27, gR_Y28, gI_Y29, gI_Y30, gI_Y31, gR_Y33, gR_Y34, gI_Y35, gR_Y36, cV_Y, bk_some, bind_some', zb_0, zb_1, zb_or, cc_or, kset_1, kset_21, kint_1, kint_21, kint_22, putY_moved, if_true, if_false, not_true_eq_false, not_false_eq_true, Bool.false_eq_true, Bool.true_eq_false, reduceIte, ite_true, ite_false]
  · have h1 := Bool.eq_false_iff.mpr h1
    refine ⟨yint Y 1 0, Yk.thrown Y 0, ?_⟩
    simp only [h1, m_isBeast, sF_Y19, gI_Y0, gR_Y1, gR_Y2, gR_Y3, gR_Y4, gR_Y5, gI_Y6, gR_Y7, gR_Y8, gR_Y9, gR_Y10, gI_Y11, gI_Y12, gR_Y13, gR_Y14, gR_Y15, gR_Y16, gR_Y17, gR_Y18, gI_Y19, gI_Y20, gI_Y21, gI_Y22, gI_Y23, gR_Y24, gR_Y25, gR_Y26, gR_Y27, gR_Y28, gI_Y29, gI_Y30, gI_Y31, gR_Y33, gR_Y34, gI_Y35, gR_Y36, cV_Y, bk_some, bind_some', zb_0, zb_1, zb_or, cc_or, kset_1, kset_21, kint_1, kint_21, kint_22, putY_moved, if_true, if_false, not_true_eq_false, not_false_eq_true, Bool.false_eq_true, Bool.true_eq_false, reduceIte, ite_true, ite_false]
