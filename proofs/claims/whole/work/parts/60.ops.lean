/-! PURE: plain changes, at both sides -/
def ix (x : Int32) : Nat := x.toNatClampNeg
theorem ix_nI {n : Nat} (h : n < 2 ^ 31) : ix (nI n) = n := nI_clamp h
theorem nI_sub1 {n : Nat} (h0 : 0 < n) (h : n ≤ 9) : nI n - 1 = nI (n - 1) := by
  rcases (show n = 1 ∨ n = 2 ∨ n = 3 ∨ n = 4 ∨ n = 5 ∨ n = 6 ∨ n = 7 ∨ n = 8 ∨ n = 9 by omega) with rfl | rfl | rfl | rfl | rfl | rfl | rfl | rfl | rfl <;> rfl
theorem inB {n : Nat} (hn : n ≤ 9) {x : Int32} (h : inR x 0 (nI n - 1) = true) : ∃ b, b < n ∧ x = nI b := by
  by_cases h0 : n = 0
  · subst h0
    unfold inR at h
    rw [Bool.and_eq_true, decide_eq_true_eq, decide_eq_true_eq] at h
    exact absurd (Int32.le_trans h.1 h.2) (by decide)
  · rw [nI_sub1 (by omega) hn] at h
    obtain ⟨i, h1, h2⟩ := inR_nI (by omega) h
    exact ⟨i, by omega, h2⟩
theorem inP {x : Int32} (h : inR x 0 4 = true) : ∃ p, p < 5 ∧ x = nI p := by
  obtain ⟨i, h1, h2⟩ := inR_nI (n := 4) (by decide) h
  exact ⟨i, by omega, h2⟩
theorem inL {x : Int32} (h : inR x 0 15 = true) : ∃ p, p ≤ 15 ∧ x = nI p := inR_nI (n := 15) (by decide) h
theorem in3 {x : Int32} (h : inR x 0 3 = true) : ∃ p, p ≤ 3 ∧ x = nI p := inR_nI (n := 3) (by decide) h
theorem in999 {x : Int32} (h : inR x 0 999 = true) : ∃ p, p ≤ 999 ∧ x = nI p := inR_nI (n := 999) (by decide) h
def standsK (x y : Int32) (κ : aK) : Int32 × aK := if inR x 0 (nI κ.1 - 1) = true then if inR y 0 15 = true then if bitB (κ.2.1 1) x = true then (κ.2.2 2 (ix x), kset κ 2 (ix x) y) else (-3, κ) else (-1, κ) else (-1, κ)
theorem p_stands {w : aW} {j : Nat} (hj : j + 9 < 75) {κ : aK} (hk : κ.1 ≤ 9) (x y : Int32) : f_X0_moveBeast j x y (putM w j κ) = some ((standsK x y κ).1, putM w j (standsK x y κ).2) := by
  unfold f_X0_moveBeast standsK
  by_cases h1 : inR x 0 (nI κ.1 - 1) = true
  · obtain ⟨b, hb, hxb⟩ := inB hk h1
    subst hxb
    have hi : ix (nI b) = b := ix_nI (by omega)
    have hb9 : b < 9 := by omega
    by_cases h2 : inR y 0 15 = true
    · skip
      by_cases h3 : bitB (κ.2.1 1) (nI b) = true
      · skip
        simp only [h1, h2, h3, hi, p_hasBeast hj, p_isPerson, p_isPlace, p_within, p_isAlive hj, gI_M0 hj, gI_M1 hj, gI_M2 hj, gI_M3 hj, gR_M4 hj, gR_M5 hj, gR_M6 hj, gR_M7 hj, gR_M8 hj, gR_M9 hj, gR_M10 hj, gR_M11 hj, gR_M12 hj, cV_M hj, bk_some, bind_some', zb_0, zb_1, zb_or, cc_or, kset_1, kset_21, kint_1, kint_21, kint_22, if_true, if_false, not_true_eq_false, not_false_eq_true, Bool.false_eq_true, Bool.true_eq_false, reduceIte, ite_true, ite_false, gA_M2 hj κ hb9, sA_M2 hj κ hb9]
      · have h3 := Bool.eq_false_iff.mpr h3
        simp only [h1, h2, h3, hi, p_hasBeast hj, p_isPerson, p_isPlace, p_within, p_isAlive hj, gI_M0 hj, gI_M1 hj, gI_M2 hj, gI_M3 hj, gR_M4 hj, gR_M5 hj, gR_M6 hj, gR_M7 hj, gR_M8 hj, gR_M9 hj, gR_M10 hj, gR_M11 hj, gR_M12 hj, cV_M hj, bk_some, bind_some', zb_0, zb_1, zb_or, cc_or, kset_1, kset_21, kint_1, kint_21, kint_22, if_true, if_false, not_true_eq_false, not_false_eq_true, Bool.false_eq_true, Bool.true_eq_false, reduceIte, ite_true, ite_false]
    · have h2 := Bool.eq_false_iff.mpr h2
      simp only [h1, h2, hi, p_hasBeast hj, p_isPerson, p_isPlace, p_within, p_isAlive hj, gI_M0 hj, gI_M1 hj, gI_M2 hj, gI_M3 hj, gR_M4 hj, gR_M5 hj, gR_M6 hj, gR_M7 hj, gR_M8 hj, gR_M9 hj, gR_M10 hj, gR_M11 hj, gR_M12 hj, cV_M hj, bk_some, bind_some', zb_0, zb_1, zb_or, cc_or, kset_1, kset_21, kint_1, kint_21, kint_22, if_true, if_false, not_true_eq_false, not_false_eq_true, Bool.false_eq_true, Bool.true_eq_false, reduceIte, ite_true, ite_false]
  · have h1 := Bool.eq_false_iff.mpr h1
    simp only [h1, p_hasBeast hj, p_isPerson, p_isPlace, p_within, p_isAlive hj, gI_M0 hj, gI_M1 hj, gI_M2 hj, gI_M3 hj, gR_M4 hj, gR_M5 hj, gR_M6 hj, gR_M7 hj, gR_M8 hj, gR_M9 hj, gR_M10 hj, gR_M11 hj, gR_M12 hj, cV_M hj, bk_some, bind_some', zb_0, zb_1, zb_or, cc_or, kset_1, kset_21, kint_1, kint_21, kint_22, if_true, if_false, not_true_eq_false, not_false_eq_true, Bool.false_eq_true, Bool.true_eq_false, reduceIte, ite_true, ite_false]
theorem m_stands (w : aW) (Y : aY) {κ : aK} (hW : WF κ) (x y : Int32) : f_X4_stands 50 x y (putY w κ Y) = some ((standsK x y κ).1, putY w (standsK x y κ).2 (yint Y 1 0)) := by
  have hk := hW.1
  unfold f_X4_stands standsK
  by_cases h1 : inR x 0 (nI κ.1 - 1) = true
  · obtain ⟨b, hb, hxb⟩ := inB hk h1
    subst hxb
    have hi : ix (nI b) = b := ix_nI (by omega)
    have hb9 : b < 9 := by omega
    by_cases h2 : inR y 0 15 = true
    · skip
      by_cases h3 : bitB (κ.2.1 1) (nI b) = true
      · skip
        simp only [h1, h2, h3, hi, m_isBeast, m_isPerson, m_isPlace, p_hasBit, sF_Y19, gI_Y0, gR_Y1, gR_Y2, gR_Y3, gR_Y4, gR_Y5, gI_Y6, gR_Y7, gR_Y8, gR_Y9, gR_Y10, gI_Y11, gI_Y12, gR_Y13, gR_Y14, gR_Y15, gR_Y16, gR_Y17, gR_Y18, gI_Y19, gI_Y20, gI_Y21, gI_Y22, gI_Y23, gR_Y24, gR_Y25, gR_Y26, gR_Y27, gR_Y28, gI_Y29, gI_Y30, gI_Y31, gR_Y33, gR_Y34, gI_Y35, gR_Y36, cV_Y, bk_some, bind_some', zb_0, zb_1, zb_or, cc_or, kset_1, kset_21, kint_1, kint_21, kint_22, putY_moved, if_true, if_false, not_true_eq_false, not_false_eq_true, Bool.false_eq_true, Bool.true_eq_false, reduceIte, ite_true, ite_false, gA_Y53 _ _ hk hb, sA_Y53 _ _ hk hb]
      · have h3 := Bool.eq_false_iff.mpr h3
        simp only [h1, h2, h3, hi, m_isBeast, m_isPerson, m_isPlace, p_hasBit, sF_Y19, gI_Y0, gR_Y1, gR_Y2, gR_Y3, gR_Y4, gR_Y5, gI_Y6, gR_Y7, gR_Y8, gR_Y9, gR_Y10, gI_Y11, gI_Y12, gR_Y13, gR_Y14, gR_Y15, gR_Y16, gR_Y17, gR_Y18, gI_Y19, gI_Y20, gI_Y21, gI_Y22, gI_Y23, gR_Y24, gR_Y25, gR_Y26, gR_Y27, gR_Y28, gI_Y29, gI_Y30, gI_Y31, gR_Y33, gR_Y34, gI_Y35, gR_Y36, cV_Y, bk_some, bind_some', zb_0, zb_1, zb_or, cc_or, kset_1, kset_21, kint_1, kint_21, kint_22, putY_moved, if_true, if_false, not_true_eq_false, not_false_eq_true, Bool.false_eq_true, Bool.true_eq_false, reduceIte, ite_true, ite_false]
    · have h2 := Bool.eq_false_iff.mpr h2
      simp only [h1, h2, hi, m_isBeast, m_isPerson, m_isPlace, p_hasBit, sF_Y19, gI_Y0, gR_Y1, gR_Y2, gR_Y3, gR_Y4, gR_Y5, gI_Y6, gR_Y7, gR_Y8, gR_Y9, gR_Y10, gI_Y11, gI_Y12, gR_Y13, gR_Y14, gR_Y15, gR_Y16, gR_Y17, gR_Y18, gI_Y19, gI_Y20, gI_Y21, gI_Y22, gI_Y23, gR_Y24, gR_Y25, gR_Y26, gR_Y27, gR_Y28, gI_Y29, gI_Y30, gI_Y31, gR_Y33, gR_Y34, gI_Y35, gR_Y36, cV_Y, bk_some, bind_some', zb_0, zb_1, zb_or, cc_or, kset_1, kset_21, kint_1, kint_21, kint_22, putY_moved, if_true, if_false, not_true_eq_false, not_false_eq_true, Bool.false_eq_true, Bool.true_eq_false, reduceIte, ite_true, ite_false]
  · have h1 := Bool.eq_false_iff.mpr h1
    simp only [h1, m_isBeast, m_isPerson, m_isPlace, p_hasBit, sF_Y19, gI_Y0, gR_Y1, gR_Y2, gR_Y3, gR_Y4, gR_Y5, gI_Y6, gR_Y7, gR_Y8, gR_Y9, gR_Y10, gI_Y11, gI_Y12, gR_Y13, gR_Y14, gR_Y15, gR_Y16, gR_Y17, gR_Y18, gI_Y19, gI_Y20, gI_Y21, gI_Y22, gI_Y23, gR_Y24, gR_Y25, gR_Y26, gR_Y27, gR_Y28, gI_Y29, gI_Y30, gI_Y31, gR_Y33, gR_Y34, gI_Y35, gR_Y36, cV_Y, bk_some, bind_some', zb_0, zb_1, zb_or, cc_or, kset_1, kset_21, kint_1, kint_21, kint_22, putY_moved, if_true, if_false, not_true_eq_false, not_false_eq_true, Bool.false_eq_true, Bool.true_eq_false, reduceIte, ite_true, ite_false]
theorem stands_WF {κ : aK} (hW : WF κ) (x y : Int32) : WF (standsK x y κ).2 := by
  unfold standsK
  by_cases h1 : inR x 0 (nI κ.1 - 1) = true
  · rw [if_pos h1]
    by_cases h2 : inR y 0 15 = true
    · rw [if_pos h2]
      by_cases h3 : bitB (κ.2.1 1) x = true
      · rw [if_pos h3]
        obtain ⟨q, hq, rfl⟩ := inL h2
        exact hW.place hq
      · rw [if_neg h3]; exact hW
    · rw [if_neg h2]; exact hW
  · rw [if_neg h1]; exact hW
def walksK (x y : Int32) (κ : aK) : Int32 × aK := if inR x 0 4 = true then if inR y 0 15 = true then (κ.2.2 6 (ix x), kset κ 6 (ix x) y) else (-1, κ) else (-1, κ)
theorem p_walks {w : aW} {j : Nat} (hj : j + 9 < 75) {κ : aK} (hk : κ.1 ≤ 9) (x y : Int32) : f_X0_movePerson j x y (putM w j κ) = some ((walksK x y κ).1, putM w j (walksK x y κ).2) := by
  unfold f_X0_movePerson walksK
  by_cases h1 : inR x 0 4 = true
  · obtain ⟨p, hp, hxp⟩ := inP h1
    subst hxp
    have hip : ix (nI p) = p := ix_nI (by omega)
    by_cases h2 : inR y 0 15 = true
    · skip
      simp only [h1, h2, hip, p_hasBeast hj, p_isPerson, p_isPlace, p_within, p_isAlive hj, gI_M0 hj, gI_M1 hj, gI_M2 hj, gI_M3 hj, gR_M4 hj, gR_M5 hj, gR_M6 hj, gR_M7 hj, gR_M8 hj, gR_M9 hj, gR_M10 hj, gR_M11 hj, gR_M12 hj, cV_M hj, bk_some, bind_some', zb_0, zb_1, zb_or, cc_or, kset_1, kset_21, kint_1, kint_21, kint_22, if_true, if_false, not_true_eq_false, not_false_eq_true, Bool.false_eq_true, Bool.true_eq_false, reduceIte, ite_true, ite_false, gA_M6 hj κ hp, sA_M6 hj κ hp]
    · have h2 := Bool.eq_false_iff.mpr h2
      simp only [h1, h2, hip, p_hasBeast hj, p_isPerson, p_isPlace, p_within, p_isAlive hj, gI_M0 hj, gI_M1 hj, gI_M2 hj, gI_M3 hj, gR_M4 hj, gR_M5 hj, gR_M6 hj, gR_M7 hj, gR_M8 hj, gR_M9 hj, gR_M10 hj, gR_M11 hj, gR_M12 hj, cV_M hj, bk_some, bind_some', zb_0, zb_1, zb_or, cc_or, kset_1, kset_21, kint_1, kint_21, kint_22, if_true, if_false, not_true_eq_false, not_false_eq_true, Bool.false_eq_true, Bool.true_eq_false, reduceIte, ite_true, ite_false]
  · have h1 := Bool.eq_false_iff.mpr h1
    simp only [h1, p_hasBeast hj, p_isPerson, p_isPlace, p_within, p_isAlive hj, gI_M0 hj, gI_M1 hj, gI_M2 hj, gI_M3 hj, gR_M4 hj, gR_M5 hj, gR_M6 hj, gR_M7 hj, gR_M8 hj, gR_M9 hj, gR_M10 hj, gR_M11 hj, gR_M12 hj, cV_M hj, bk_some, bind_some', zb_0, zb_1, zb_or, cc_or, kset_1, kset_21, kint_1, kint_21, kint_22, if_true, if_false, not_true_eq_false, not_false_eq_true, Bool.false_eq_true, Bool.true_eq_false, reduceIte, ite_true, ite_false]
theorem m_walks (w : aW) (Y : aY) {κ : aK} (hW : WF κ) (x y : Int32) : f_X4_walks 50 x y (putY w κ Y) = some ((walksK x y κ).1, putY w (walksK x y κ).2 (yint Y 1 0)) := by
  have hk := hW.1
  unfold f_X4_walks walksK
  by_cases h1 : inR x 0 4 = true
  · obtain ⟨p, hp, hxp⟩ := inP h1
    subst hxp
    have hip : ix (nI p) = p := ix_nI (by omega)
    by_cases h2 : inR y 0 15 = true
    · skip
      simp only [h1, h2, hip, m_isBeast, m_isPerson, m_isPlace, p_hasBit, sF_Y19, gI_Y0, gR_Y1, gR_Y2, gR_Y3, gR_Y4, gR_Y5, gI_Y6, gR_Y7, gR_Y8, gR_Y9, gR_Y10, gI_Y11, gI_Y12, gR_Y13, gR_Y14, gR_Y15, gR_Y16, gR_Y17, gR_Y18, gI_Y19, gI_Y20, gI_Y21, gI_Y22, gI_Y23, gR_Y24, gR_Y25, gR_Y26, gR_Y27, gR_Y28, gI_Y29, gI_Y30, gI_Y31, gR_Y33, gR_Y34, gI_Y35, gR_Y36, cV_Y, bk_some, bind_some', zb_0, zb_1, zb_or, cc_or, kset_1, kset_21, kint_1, kint_21, kint_22, putY_moved, if_true, if_false, not_true_eq_false, not_false_eq_true, Bool.false_eq_true, Bool.true_eq_false, reduceIte, ite_true, ite_false, gA_Y57 _ _ _ hp, sA_Y57 _ _ _ hp]
    · have h2 := Bool.eq_false_iff.mpr h2
      simp only [h1, h2, hip, m_isBeast, m_isPerson, m_isPlace, p_hasBit, sF_Y19, gI_Y0, gR_Y1, gR_Y2, gR_Y3, gR_Y4, gR_Y5, gI_Y6, gR_Y7, gR_Y8, gR_Y9, gR_Y10, gI_Y11, gI_Y12, gR_Y13, gR_Y14, gR_Y15, gR_Y16, gR_Y17, gR_Y18, gI_Y19, gI_Y20, gI_Y21, gI_Y22, gI_Y23, gR_Y24, gR_Y25, gR_Y26, gR_Y27, gR_Y28, gI_Y29, gI_Y30, gI_Y31, gR_Y33, gR_Y34, gI_Y35, gR_Y36, cV_Y, bk_some, bind_some', zb_0, zb_1, zb_or, cc_or, kset_1, kset_21, kint_1, kint_21, kint_22, putY_moved, if_true, if_false, not_true_eq_false, not_false_eq_true, Bool.false_eq_true, Bool.true_eq_false, reduceIte, ite_true, ite_false]
  · have h1 := Bool.eq_false_iff.mpr h1
    simp only [h1, m_isBeast, m_isPerson, m_isPlace, p_hasBit, sF_Y19, gI_Y0, gR_Y1, gR_Y2, gR_Y3, gR_Y4, gR_Y5, gI_Y6, gR_Y7, gR_Y8, gR_Y9, gR_Y10, gI_Y11, gI_Y12, gR_Y13, gR_Y14, gR_Y15, gR_Y16, gR_Y17, gR_Y18, gI_Y19, gI_Y20, gI_Y21, gI_Y22, gI_Y23, gR_Y24, gR_Y25, gR_Y26, gR_Y27, gR_Y28, gI_Y29, gI_Y30, gI_Y31, gR_Y33, gR_Y34, gI_Y35, gR_Y36, cV_Y, bk_some, bind_some', zb_0, zb_1, zb_or, cc_or, kset_1, kset_21, kint_1, kint_21, kint_22, putY_moved, if_true, if_false, not_true_eq_false, not_false_eq_true, Bool.false_eq_true, Bool.true_eq_false, reduceIte, ite_true, ite_false]
theorem walks_WF {κ : aK} (hW : WF κ) (x y : Int32) : WF (walksK x y κ).2 := by
  unfold walksK
  by_cases h1 : inR x 0 4 = true
  · rw [if_pos h1]
    by_cases h2 : inR y 0 15 = true
    · rw [if_pos h2]
      obtain ⟨q, hq, rfl⟩ := inL h2
      exact hW.spot hq
    · rw [if_neg h2]; exact hW
  · rw [if_neg h1]; exact hW
def callsK (x y : Int32) (κ : aK) : Int32 × aK := if inR x 0 4 = true then if inR y 0 (nI κ.1 - 1) = true then if bitB (κ.2.1 1) y = true then (κ.2.2 4 (ix y), kset κ 4 (ix y) x) else (-3, κ) else (-1, κ) else (-1, κ)
theorem p_calls {w : aW} {j : Nat} (hj : j + 9 < 75) {κ : aK} (hk : κ.1 ≤ 9) (x y : Int32) : f_X0_callBeast j x y (putM w j κ) = some ((callsK x y κ).1, putM w j (callsK x y κ).2) := by
  unfold f_X0_callBeast callsK
  by_cases h1 : inR x 0 4 = true
  · obtain ⟨p, hp, hxp⟩ := inP h1
    subst hxp
    have hip : ix (nI p) = p := ix_nI (by omega)
    by_cases h2 : inR y 0 (nI κ.1 - 1) = true
    · obtain ⟨b, hb, hxb⟩ := inB hk h2
      subst hxb
      have hi : ix (nI b) = b := ix_nI (by omega)
      have hb9 : b < 9 := by omega
      by_cases h3 : bitB (κ.2.1 1) (nI b) = true
      · skip
        simp only [h1, h2, h3, hi, hip, p_hasBeast hj, p_isPerson, p_isPlace, p_within, p_isAlive hj, gI_M0 hj, gI_M1 hj, gI_M2 hj, gI_M3 hj, gR_M4 hj, gR_M5 hj, gR_M6 hj, gR_M7 hj, gR_M8 hj, gR_M9 hj, gR_M10 hj, gR_M11 hj, gR_M12 hj, cV_M hj, bk_some, bind_some', zb_0, zb_1, zb_or, cc_or, kset_1, kset_21, kint_1, kint_21, kint_22, if_true, if_false, not_true_eq_false, not_false_eq_true, Bool.false_eq_true, Bool.true_eq_false, reduceIte, ite_true, ite_false, gA_M4 hj κ hb9, sA_M4 hj κ hb9]
      · have h3 := Bool.eq_false_iff.mpr h3
        simp only [h1, h2, h3, hi, hip, p_hasBeast hj, p_isPerson, p_isPlace, p_within, p_isAlive hj, gI_M0 hj, gI_M1 hj, gI_M2 hj, gI_M3 hj, gR_M4 hj, gR_M5 hj, gR_M6 hj, gR_M7 hj, gR_M8 hj, gR_M9 hj, gR_M10 hj, gR_M11 hj, gR_M12 hj, cV_M hj, bk_some, bind_some', zb_0, zb_1, zb_or, cc_or, kset_1, kset_21, kint_1, kint_21, kint_22, if_true, if_false, not_true_eq_false, not_false_eq_true, Bool.false_eq_true, Bool.true_eq_false, reduceIte, ite_true, ite_false]
    · have h2 := Bool.eq_false_iff.mpr h2
      simp only [h1, h2, hip, p_hasBeast hj, p_isPerson, p_isPlace, p_within, p_isAlive hj, gI_M0 hj, gI_M1 hj, gI_M2 hj, gI_M3 hj, gR_M4 hj, gR_M5 hj, gR_M6 hj, gR_M7 hj, gR_M8 hj, gR_M9 hj, gR_M10 hj, gR_M11 hj, gR_M12 hj, cV_M hj, bk_some, bind_some', zb_0, zb_1, zb_or, cc_or, kset_1, kset_21, kint_1, kint_21, kint_22, if_true, if_false, not_true_eq_false, not_false_eq_true, Bool.false_eq_true, Bool.true_eq_false, reduceIte, ite_true, ite_false]
  · have h1 := Bool.eq_false_iff.mpr h1
    simp only [h1, p_hasBeast hj, p_isPerson, p_isPlace, p_within, p_isAlive hj, gI_M0 hj, gI_M1 hj, gI_M2 hj, gI_M3 hj, gR_M4 hj, gR_M5 hj, gR_M6 hj, gR_M7 hj, gR_M8 hj, gR_M9 hj, gR_M10 hj, gR_M11 hj, gR_M12 hj, cV_M hj, bk_some, bind_some', zb_0, zb_1, zb_or, cc_or, kset_1, kset_21, kint_1, kint_21, kint_22, if_true, if_false, not_true_eq_false, not_false_eq_true, Bool.false_eq_true, Bool.true_eq_false, reduceIte, ite_true, ite_false]
theorem m_calls (w : aW) (Y : aY) {κ : aK} (hW : WF κ) (x y : Int32) : f_X4_calls 50 x y (putY w κ Y) = some ((callsK x y κ).1, putY w (callsK x y κ).2 (yint Y 1 0)) := by
  have hk := hW.1
  unfold f_X4_calls callsK
  by_cases h1 : inR x 0 4 = true
  · obtain ⟨p, hp, hxp⟩ := inP h1
    subst hxp
    have hip : ix (nI p) = p := ix_nI (by omega)
    by_cases h2 : inR y 0 (nI κ.1 - 1) = true
    · obtain ⟨b, hb, hxb⟩ := inB hk h2
      subst hxb
      have hi : ix (nI b) = b := ix_nI (by omega)
      have hb9 : b < 9 := by omega
      by_cases h3 : bitB (κ.2.1 1) (nI b) = true
      · skip
        simp only [h1, h2, h3, hi, hip, m_isBeast, m_isPerson, m_isPlace, p_hasBit, sF_Y19, gI_Y0, gR_Y1, gR_Y2, gR_Y3, gR_Y4, gR_Y5, gI_Y6, gR_Y7, gR_Y8, gR_Y9, gR_Y10, gI_Y11, gI_Y12, gR_Y13, gR_Y14, gR_Y15, gR_Y16, gR_Y17, gR_Y18, gI_Y19, gI_Y20, gI_Y21, gI_Y22, gI_Y23, gR_Y24, gR_Y25, gR_Y26, gR_Y27, gR_Y28, gI_Y29, gI_Y30, gI_Y31, gR_Y33, gR_Y34, gI_Y35, gR_Y36, cV_Y, bk_some, bind_some', zb_0, zb_1, zb_or, cc_or, kset_1, kset_21, kint_1, kint_21, kint_22, putY_moved, if_true, if_false, not_true_eq_false, not_false_eq_true, Bool.false_eq_true, Bool.true_eq_false, reduceIte, ite_true, ite_false, gA_Y55 _ _ hk hb, sA_Y55 _ _ hk hb]
      · have h3 := Bool.eq_false_iff.mpr h3
        simp only [h1, h2, h3, hi, hip, m_isBeast, m_isPerson, m_isPlace, p_hasBit, sF_Y19, gI_Y0, gR_Y1, gR_Y2, gR_Y3, gR_Y4, gR_Y5, gI_Y6, gR_Y7, gR_Y8, gR_Y9, gR_Y10, gI_Y11, gI_Y12, gR_Y13, gR_Y14, gR_Y15, gR_Y16, gR_Y17, gR_Y18, gI_Y19, gI_Y20, gI_Y21, gI_Y22, gI_Y23, gR_Y24, gR_Y25, gR_Y26, gR_Y27, gR_Y28, gI_Y29, gI_Y30, gI_Y31, gR_Y33, gR_Y34, gI_Y35, gR_Y36, cV_Y, bk_some, bind_some', zb_0, zb_1, zb_or, cc_or, kset_1, kset_21, kint_1, kint_21, kint_22, putY_moved, if_true, if_false, not_true_eq_false, not_false_eq_true, Bool.false_eq_true, Bool.true_eq_false, reduceIte, ite_true, ite_false]
    · have h2 := Bool.eq_false_iff.mpr h2
      simp only [h1, h2, hip, m_isBeast, m_isPerson, m_isPlace, p_hasBit, sF_Y19, gI_Y0, gR_Y1, gR_Y2, gR_Y3, gR_Y4, gR_Y5, gI_Y6, gR_Y7, gR_Y8, gR_Y9, gR_Y10, gI_Y11, gI_Y12, gR_Y13, gR_Y14, gR_Y15, gR_Y16, gR_Y17, gR_Y18, gI_Y19, gI_Y20, gI_Y21, gI_Y22, gI_Y23, gR_Y24, gR_Y25, gR_Y26, gR_Y27, gR_Y28, gI_Y29, gI_Y30, gI_Y31, gR_Y33, gR_Y34, gI_Y35, gR_Y36, cV_Y, bk_some, bind_some', zb_0, zb_1, zb_or, cc_or, kset_1, kset_21, kint_1, kint_21, kint_22, putY_moved, if_true, if_false, not_true_eq_false, not_false_eq_true, Bool.false_eq_true, Bool.true_eq_false, reduceIte, ite_true, ite_false]
  · have h1 := Bool.eq_false_iff.mpr h1
    simp only [h1, m_isBeast, m_isPerson, m_isPlace, p_hasBit, sF_Y19, gI_Y0, gR_Y1, gR_Y2, gR_Y3, gR_Y4, gR_Y5, gI_Y6, gR_Y7, gR_Y8, gR_Y9, gR_Y10, gI_Y11, gI_Y12, gR_Y13, gR_Y14, gR_Y15, gR_Y16, gR_Y17, gR_Y18, gI_Y19, gI_Y20, gI_Y21, gI_Y22, gI_Y23, gR_Y24, gR_Y25, gR_Y26, gR_Y27, gR_Y28, gI_Y29, gI_Y30, gI_Y31, gR_Y33, gR_Y34, gI_Y35, gR_Y36, cV_Y, bk_some, bind_some', zb_0, zb_1, zb_or, cc_or, kset_1, kset_21, kint_1, kint_21, kint_22, putY_moved, if_true, if_false, not_true_eq_false, not_false_eq_true, Bool.false_eq_true, Bool.true_eq_false, reduceIte, ite_true, ite_false]
theorem calls_WF {κ : aK} (hW : WF κ) (x y : Int32) : WF (callsK x y κ).2 := by
  unfold callsK
  by_cases h1 : inR x 0 4 = true
  · rw [if_pos h1]
    by_cases h2 : inR y 0 (nI κ.1 - 1) = true
    · rw [if_pos h2]
      by_cases h3 : bitB (κ.2.1 1) y = true
      · rw [if_pos h3]
        obtain ⟨q, hq, rfl⟩ := inP h1
        obtain ⟨b, hb, rfl⟩ := inB hW.1 h2
        exact hW.caller (Or.inr ⟨by rw [ix_nI (by have := hW.1; omega)]; exact hb, q, hq, rfl⟩)
      · rw [if_neg h3]; exact hW
    · rw [if_neg h2]; exact hW
  · rw [if_neg h1]; exact hW
def answersK (x : Int32) (κ : aK) : Int32 × aK := if inR x 0 (nI κ.1 - 1) = true then if ¬ κ.2.2 4 (ix x) = -4 then (κ.2.2 4 (ix x), kset κ 4 (ix x) (-4)) else (-3, κ) else (-1, κ)
theorem p_answers {w : aW} {j : Nat} (hj : j + 9 < 75) {κ : aK} (hk : κ.1 ≤ 9) (x : Int32) : f_X0_freeBeast j x (putM w j κ) = some ((answersK x κ).1, putM w j (answersK x κ).2) := by
  unfold f_X0_freeBeast answersK
  by_cases h1 : inR x 0 (nI κ.1 - 1) = true
  · obtain ⟨b, hb, hxb⟩ := inB hk h1
    subst hxb
    have hi : ix (nI b) = b := ix_nI (by omega)
    have hb9 : b < 9 := by omega
    by_cases h2 : ¬ κ.2.2 4 (ix (nI b)) = -4
    · skip
      rw [hi] at h2
      simp only [h1, h2, hi, p_hasBeast hj, p_isPerson, p_isPlace, p_within, p_isAlive hj, gI_M0 hj, gI_M1 hj, gI_M2 hj, gI_M3 hj, gR_M4 hj, gR_M5 hj, gR_M6 hj, gR_M7 hj, gR_M8 hj, gR_M9 hj, gR_M10 hj, gR_M11 hj, gR_M12 hj, cV_M hj, bk_some, bind_some', zb_0, zb_1, zb_or, cc_or, kset_1, kset_21, kint_1, kint_21, kint_22, if_true, if_false, not_true_eq_false, not_false_eq_true, Bool.false_eq_true, Bool.true_eq_false, reduceIte, ite_true, ite_false, gA_M4 hj κ hb9, sA_M4 hj κ hb9]
    · rw [hi] at h2
      have h2 := Decidable.not_not.mp h2
      simp only [h1, h2, hi, p_hasBeast hj, p_isPerson, p_isPlace, p_within, p_isAlive hj, gI_M0 hj, gI_M1 hj, gI_M2 hj, gI_M3 hj, gR_M4 hj, gR_M5 hj, gR_M6 hj, gR_M7 hj, gR_M8 hj, gR_M9 hj, gR_M10 hj, gR_M11 hj, gR_M12 hj, cV_M hj, bk_some, bind_some', zb_0, zb_1, zb_or, cc_or, kset_1, kset_21, kint_1, kint_21, kint_22, if_true, if_false, not_true_eq_false, not_false_eq_true, Bool.false_eq_true, Bool.true_eq_false, reduceIte, ite_true, ite_false, gA_M4 hj κ hb9, sA_M4 hj κ hb9]
  · have h1 := Bool.eq_false_iff.mpr h1
    simp only [h1, p_hasBeast hj, p_isPerson, p_isPlace, p_within, p_isAlive hj, gI_M0 hj, gI_M1 hj, gI_M2 hj, gI_M3 hj, gR_M4 hj, gR_M5 hj, gR_M6 hj, gR_M7 hj, gR_M8 hj, gR_M9 hj, gR_M10 hj, gR_M11 hj, gR_M12 hj, cV_M hj, bk_some, bind_some', zb_0, zb_1, zb_or, cc_or, kset_1, kset_21, kint_1, kint_21, kint_22, if_true, if_false, not_true_eq_false, not_false_eq_true, Bool.false_eq_true, Bool.true_eq_false, reduceIte, ite_true, ite_false]
theorem m_answers (w : aW) (Y : aY) {κ : aK} (hW : WF κ) (x : Int32) : f_X4_answers 50 x (putY w κ Y) = some ((answersK x κ).1, putY w (answersK x κ).2 (yint Y 1 0)) := by
  have hk := hW.1
  unfold f_X4_answers answersK
  by_cases h1 : inR x 0 (nI κ.1 - 1) = true
  · obtain ⟨b, hb, hxb⟩ := inB hk h1
    subst hxb
    have hi : ix (nI b) = b := ix_nI (by omega)
    have hb9 : b < 9 := by omega
    by_cases h2 : ¬ κ.2.2 4 (ix (nI b)) = -4
    · skip
      rw [hi] at h2
      obtain ⟨q, hq, hqe⟩ := ((hW.2.1 b hb9).2.2.2.2).resolve_left h2
      have h4 : (0 : Int32) ≤ κ.2.2 4 b := by rw [hqe]; exact nI_pos' (by omega)
      simp only [h1, h2, hi, m_isBeast, m_isPerson, m_isPlace, p_hasBit, sF_Y19, gI_Y0, gR_Y1, gR_Y2, gR_Y3, gR_Y4, gR_Y5, gI_Y6, gR_Y7, gR_Y8, gR_Y9, gR_Y10, gI_Y11, gI_Y12, gR_Y13, gR_Y14, gR_Y15, gR_Y16, gR_Y17, gR_Y18, gI_Y19, gI_Y20, gI_Y21, gI_Y22, gI_Y23, gR_Y24, gR_Y25, gR_Y26, gR_Y27, gR_Y28, gI_Y29, gI_Y30, gI_Y31, gR_Y33, gR_Y34, gI_Y35, gR_Y36, cV_Y, bk_some, bind_some', zb_0, zb_1, zb_or, cc_or, kset_1, kset_21, kint_1, kint_21, kint_22, putY_moved, if_true, if_false, not_true_eq_false, not_false_eq_true, Bool.false_eq_true, Bool.true_eq_false, reduceIte, ite_true, ite_false, gA_Y55 _ _ hk hb, sA_Y55 _ _ hk hb, h4]
    · rw [hi] at h2
      have h2 := Decidable.not_not.mp h2
      simp only [h1, h2, hi, m_isBeast, m_isPerson, m_isPlace, p_hasBit, sF_Y19, gI_Y0, gR_Y1, gR_Y2, gR_Y3, gR_Y4, gR_Y5, gI_Y6, gR_Y7, gR_Y8, gR_Y9, gR_Y10, gI_Y11, gI_Y12, gR_Y13, gR_Y14, gR_Y15, gR_Y16, gR_Y17, gR_Y18, gI_Y19, gI_Y20, gI_Y21, gI_Y22, gI_Y23, gR_Y24, gR_Y25, gR_Y26, gR_Y27, gR_Y28, gI_Y29, gI_Y30, gI_Y31, gR_Y33, gR_Y34, gI_Y35, gR_Y36, cV_Y, bk_some, bind_some', zb_0, zb_1, zb_or, cc_or, kset_1, kset_21, kint_1, kint_21, kint_22, putY_moved, if_true, if_false, not_true_eq_false, not_false_eq_true, Bool.false_eq_true, Bool.true_eq_false, reduceIte, ite_true, ite_false, gA_Y55 _ _ hk hb, sA_Y55 _ _ hk hb, m4_neg]
  · have h1 := Bool.eq_false_iff.mpr h1
    simp only [h1, m_isBeast, m_isPerson, m_isPlace, p_hasBit, sF_Y19, gI_Y0, gR_Y1, gR_Y2, gR_Y3, gR_Y4, gR_Y5, gI_Y6, gR_Y7, gR_Y8, gR_Y9, gR_Y10, gI_Y11, gI_Y12, gR_Y13, gR_Y14, gR_Y15, gR_Y16, gR_Y17, gR_Y18, gI_Y19, gI_Y20, gI_Y21, gI_Y22, gI_Y23, gR_Y24, gR_Y25, gR_Y26, gR_Y27, gR_Y28, gI_Y29, gI_Y30, gI_Y31, gR_Y33, gR_Y34, gI_Y35, gR_Y36, cV_Y, bk_some, bind_some', zb_0, zb_1, zb_or, cc_or, kset_1, kset_21, kint_1, kint_21, kint_22, putY_moved, if_true, if_false, not_true_eq_false, not_false_eq_true, Bool.false_eq_true, Bool.true_eq_false, reduceIte, ite_true, ite_false]
theorem answers_WF {κ : aK} (hW : WF κ) (x : Int32) : WF (answersK x κ).2 := by
  unfold answersK
  by_cases h1 : inR x 0 (nI κ.1 - 1) = true
  · rw [if_pos h1]
    by_cases h2 : ¬ κ.2.2 4 (ix x) = -4
    · rw [if_pos h2]
      exact hW.caller (Or.inl rfl)
    · rw [if_neg h2]; exact hW
  · rw [if_neg h1]; exact hW
def tongueK (x y : Int32) (κ : aK) : Int32 × aK := if inR x 0 4 = true then if inR y 0 3 = true then (κ.2.2 7 (ix x), kset κ 7 (ix x) y) else (-1, κ) else (-1, κ)
theorem p_tongue {w : aW} {j : Nat} (hj : j + 9 < 75) {κ : aK} (hk : κ.1 ≤ 9) (x y : Int32) : f_X0_changeTongue j x y (putM w j κ) = some ((tongueK x y κ).1, putM w j (tongueK x y κ).2) := by
  unfold f_X0_changeTongue tongueK
  by_cases h1 : inR x 0 4 = true
  · obtain ⟨p, hp, hxp⟩ := inP h1
    subst hxp
    have hip : ix (nI p) = p := ix_nI (by omega)
    by_cases h2 : inR y 0 3 = true
    · skip
      simp only [h1, h2, hip, p_hasBeast hj, p_isPerson, p_isPlace, p_within, p_isAlive hj, gI_M0 hj, gI_M1 hj, gI_M2 hj, gI_M3 hj, gR_M4 hj, gR_M5 hj, gR_M6 hj, gR_M7 hj, gR_M8 hj, gR_M9 hj, gR_M10 hj, gR_M11 hj, gR_M12 hj, cV_M hj, bk_some, bind_some', zb_0, zb_1, zb_or, cc_or, kset_1, kset_21, kint_1, kint_21, kint_22, if_true, if_false, not_true_eq_false, not_false_eq_true, Bool.false_eq_true, Bool.true_eq_false, reduceIte, ite_true, ite_false, gA_M7 hj κ hp, sA_M7 hj κ hp]
    · have h2 := Bool.eq_false_iff.mpr h2
      simp only [h1, h2, hip, p_hasBeast hj, p_isPerson, p_isPlace, p_within, p_isAlive hj, gI_M0 hj, gI_M1 hj, gI_M2 hj, gI_M3 hj, gR_M4 hj, gR_M5 hj, gR_M6 hj, gR_M7 hj, gR_M8 hj, gR_M9 hj, gR_M10 hj, gR_M11 hj, gR_M12 hj, cV_M hj, bk_some, bind_some', zb_0, zb_1, zb_or, cc_or, kset_1, kset_21, kint_1, kint_21, kint_22, if_true, if_false, not_true_eq_false, not_false_eq_true, Bool.false_eq_true, Bool.true_eq_false, reduceIte, ite_true, ite_false]
  · have h1 := Bool.eq_false_iff.mpr h1
    simp only [h1, p_hasBeast hj, p_isPerson, p_isPlace, p_within, p_isAlive hj, gI_M0 hj, gI_M1 hj, gI_M2 hj, gI_M3 hj, gR_M4 hj, gR_M5 hj, gR_M6 hj, gR_M7 hj, gR_M8 hj, gR_M9 hj, gR_M10 hj, gR_M11 hj, gR_M12 hj, cV_M hj, bk_some, bind_some', zb_0, zb_1, zb_or, cc_or, kset_1, kset_21, kint_1, kint_21, kint_22, if_true, if_false, not_true_eq_false, not_false_eq_true, Bool.false_eq_true, Bool.true_eq_false, reduceIte, ite_true, ite_false]
theorem m_tongue (w : aW) (Y : aY) {κ : aK} (hW : WF κ) (x y : Int32) : f_X4_tongue 50 x y (putY w κ Y) = some ((tongueK x y κ).1, putY w (tongueK x y κ).2 (yint Y 1 0)) := by
  have hk := hW.1
  unfold f_X4_tongue tongueK
  by_cases h1 : inR x 0 4 = true
  · obtain ⟨p, hp, hxp⟩ := inP h1
    subst hxp
    have hip : ix (nI p) = p := ix_nI (by omega)
    by_cases h2 : inR y 0 3 = true
    · skip
      simp only [h1, h2, hip, m_isBeast, m_isPerson, m_isPlace, p_hasBit, p_in32 (x := y) (a := 0) (b := 3) (a' := 0) (b' := 3) rfl rfl, p_in32 (x := y) (a := 0) (b := 999) (a' := 0) (b' := 999) rfl rfl, sF_Y19, gI_Y0, gR_Y1, gR_Y2, gR_Y3, gR_Y4, gR_Y5, gI_Y6, gR_Y7, gR_Y8, gR_Y9, gR_Y10, gI_Y11, gI_Y12, gR_Y13, gR_Y14, gR_Y15, gR_Y16, gR_Y17, gR_Y18, gI_Y19, gI_Y20, gI_Y21, gI_Y22, gI_Y23, gR_Y24, gR_Y25, gR_Y26, gR_Y27, gR_Y28, gI_Y29, gI_Y30, gI_Y31, gR_Y33, gR_Y34, gI_Y35, gR_Y36, cV_Y, bk_some, bind_some', zb_0, zb_1, zb_or, cc_or, kset_1, kset_21, kint_1, kint_21, kint_22, putY_moved, if_true, if_false, not_true_eq_false, not_false_eq_true, Bool.false_eq_true, Bool.true_eq_false, reduceIte, ite_true, ite_false, gA_Y58 _ _ _ hp, sA_Y58 _ _ _ hp]
    · have h2 := Bool.eq_false_iff.mpr h2
      simp only [h1, h2, hip, m_isBeast, m_isPerson, m_isPlace, p_hasBit, p_in32 (x := y) (a := 0) (b := 3) (a' := 0) (b' := 3) rfl rfl, p_in32 (x := y) (a := 0) (b := 999) (a' := 0) (b' := 999) rfl rfl, sF_Y19, gI_Y0, gR_Y1, gR_Y2, gR_Y3, gR_Y4, gR_Y5, gI_Y6, gR_Y7, gR_Y8, gR_Y9, gR_Y10, gI_Y11, gI_Y12, gR_Y13, gR_Y14, gR_Y15, gR_Y16, gR_Y17, gR_Y18, gI_Y19, gI_Y20, gI_Y21, gI_Y22, gI_Y23, gR_Y24, gR_Y25, gR_Y26, gR_Y27, gR_Y28, gI_Y29, gI_Y30, gI_Y31, gR_Y33, gR_Y34, gI_Y35, gR_Y36, cV_Y, bk_some, bind_some', zb_0, zb_1, zb_or, cc_or, kset_1, kset_21, kint_1, kint_21, kint_22, putY_moved, if_true, if_false, not_true_eq_false, not_false_eq_true, Bool.false_eq_true, Bool.true_eq_false, reduceIte, ite_true, ite_false]
  · have h1 := Bool.eq_false_iff.mpr h1
    simp only [h1, m_isBeast, m_isPerson, m_isPlace, p_hasBit, p_in32 (x := y) (a := 0) (b := 3) (a' := 0) (b' := 3) rfl rfl, p_in32 (x := y) (a := 0) (b := 999) (a' := 0) (b' := 999) rfl rfl, sF_Y19, gI_Y0, gR_Y1, gR_Y2, gR_Y3, gR_Y4, gR_Y5, gI_Y6, gR_Y7, gR_Y8, gR_Y9, gR_Y10, gI_Y11, gI_Y12, gR_Y13, gR_Y14, gR_Y15, gR_Y16, gR_Y17, gR_Y18, gI_Y19, gI_Y20, gI_Y21, gI_Y22, gI_Y23, gR_Y24, gR_Y25, gR_Y26, gR_Y27, gR_Y28, gI_Y29, gI_Y30, gI_Y31, gR_Y33, gR_Y34, gI_Y35, gR_Y36, cV_Y, bk_some, bind_some', zb_0, zb_1, zb_or, cc_or, kset_1, kset_21, kint_1, kint_21, kint_22, putY_moved, if_true, if_false, not_true_eq_false, not_false_eq_true, Bool.false_eq_true, Bool.true_eq_false, reduceIte, ite_true, ite_false]
theorem tongue_WF {κ : aK} (hW : WF κ) (x y : Int32) : WF (tongueK x y κ).2 := by
  unfold tongueK
  by_cases h1 : inR x 0 4 = true
  · rw [if_pos h1]
    by_cases h2 : inR y 0 3 = true
    · rw [if_pos h2]
      obtain ⟨q, hq, rfl⟩ := in3 h2
      exact hW.speech hq
    · rw [if_neg h2]; exact hW
  · rw [if_neg h1]; exact hW
def meansK (x y : Int32) (κ : aK) : Int32 × aK := if inR x 0 4 = true then if inR y 0 999 = true then (κ.2.2 5 (ix x), kset κ 5 (ix x) y) else (-1, κ) else (-1, κ)
theorem p_means {w : aW} {j : Nat} (hj : j + 9 < 75) {κ : aK} (hk : κ.1 ≤ 9) (x y : Int32) : f_X0_changeMeans j x y (putM w j κ) = some ((meansK x y κ).1, putM w j (meansK x y κ).2) := by
  unfold f_X0_changeMeans meansK
  by_cases h1 : inR x 0 4 = true
  · obtain ⟨p, hp, hxp⟩ := inP h1
    subst hxp
    have hip : ix (nI p) = p := ix_nI (by omega)
    by_cases h2 : inR y 0 999 = true
    · skip
      simp only [h1, h2, hip, p_hasBeast hj, p_isPerson, p_isPlace, p_within, p_isAlive hj, gI_M0 hj, gI_M1 hj, gI_M2 hj, gI_M3 hj, gR_M4 hj, gR_M5 hj, gR_M6 hj, gR_M7 hj, gR_M8 hj, gR_M9 hj, gR_M10 hj, gR_M11 hj, gR_M12 hj, cV_M hj, bk_some, bind_some', zb_0, zb_1, zb_or, cc_or, kset_1, kset_21, kint_1, kint_21, kint_22, if_true, if_false, not_true_eq_false, not_false_eq_true, Bool.false_eq_true, Bool.true_eq_false, reduceIte, ite_true, ite_false, gA_M5 hj κ hp, sA_M5 hj κ hp]
    · have h2 := Bool.eq_false_iff.mpr h2
      simp only [h1, h2, hip, p_hasBeast hj, p_isPerson, p_isPlace, p_within, p_isAlive hj, gI_M0 hj, gI_M1 hj, gI_M2 hj, gI_M3 hj, gR_M4 hj, gR_M5 hj, gR_M6 hj, gR_M7 hj, gR_M8 hj, gR_M9 hj, gR_M10 hj, gR_M11 hj, gR_M12 hj, cV_M hj, bk_some, bind_some', zb_0, zb_1, zb_or, cc_or, kset_1, kset_21, kint_1, kint_21, kint_22, if_true, if_false, not_true_eq_false, not_false_eq_true, Bool.false_eq_true, Bool.true_eq_false, reduceIte, ite_true, ite_false]
  · have h1 := Bool.eq_false_iff.mpr h1
    simp only [h1, p_hasBeast hj, p_isPerson, p_isPlace, p_within, p_isAlive hj, gI_M0 hj, gI_M1 hj, gI_M2 hj, gI_M3 hj, gR_M4 hj, gR_M5 hj, gR_M6 hj, gR_M7 hj, gR_M8 hj, gR_M9 hj, gR_M10 hj, gR_M11 hj, gR_M12 hj, cV_M hj, bk_some, bind_some', zb_0, zb_1, zb_or, cc_or, kset_1, kset_21, kint_1, kint_21, kint_22, if_true, if_false, not_true_eq_false, not_false_eq_true, Bool.false_eq_true, Bool.true_eq_false, reduceIte, ite_true, ite_false]
theorem m_means (w : aW) (Y : aY) {κ : aK} (hW : WF κ) (x y : Int32) : f_X4_means 50 x y (putY w κ Y) = some ((meansK x y κ).1, putY w (meansK x y κ).2 (yint Y 1 0)) := by
  have hk := hW.1
  unfold f_X4_means meansK
  by_cases h1 : inR x 0 4 = true
  · obtain ⟨p, hp, hxp⟩ := inP h1
    subst hxp
    have hip : ix (nI p) = p := ix_nI (by omega)
    by_cases h2 : inR y 0 999 = true
    · skip
      simp only [h1, h2, hip, m_isBeast, m_isPerson, m_isPlace, p_hasBit, p_in32 (x := y) (a := 0) (b := 3) (a' := 0) (b' := 3) rfl rfl, p_in32 (x := y) (a := 0) (b := 999) (a' := 0) (b' := 999) rfl rfl, sF_Y19, gI_Y0, gR_Y1, gR_Y2, gR_Y3, gR_Y4, gR_Y5, gI_Y6, gR_Y7, gR_Y8, gR_Y9, gR_Y10, gI_Y11, gI_Y12, gR_Y13, gR_Y14, gR_Y15, gR_Y16, gR_Y17, gR_Y18, gI_Y19, gI_Y20, gI_Y21, gI_Y22, gI_Y23, gR_Y24, gR_Y25, gR_Y26, gR_Y27, gR_Y28, gI_Y29, gI_Y30, gI_Y31, gR_Y33, gR_Y34, gI_Y35, gR_Y36, cV_Y, bk_some, bind_some', zb_0, zb_1, zb_or, cc_or, kset_1, kset_21, kint_1, kint_21, kint_22, putY_moved, if_true, if_false, not_true_eq_false, not_false_eq_true, Bool.false_eq_true, Bool.true_eq_false, reduceIte, ite_true, ite_false, gA_Y56 _ _ _ hp, sA_Y56 _ _ _ hp]
    · have h2 := Bool.eq_false_iff.mpr h2
      simp only [h1, h2, hip, m_isBeast, m_isPerson, m_isPlace, p_hasBit, p_in32 (x := y) (a := 0) (b := 3) (a' := 0) (b' := 3) rfl rfl, p_in32 (x := y) (a := 0) (b := 999) (a' := 0) (b' := 999) rfl rfl, sF_Y19, gI_Y0, gR_Y1, gR_Y2, gR_Y3, gR_Y4, gR_Y5, gI_Y6, gR_Y7, gR_Y8, gR_Y9, gR_Y10, gI_Y11, gI_Y12, gR_Y13, gR_Y14, gR_Y15, gR_Y16, gR_Y17, gR_Y18, gI_Y19, gI_Y20, gI_Y21, gI_Y22, gI_Y23, gR_Y24, gR_Y25, gR_Y26, gR_Y27, gR_Y28, gI_Y29, gI_Y30, gI_Y31, gR_Y33, gR_Y34, gI_Y35, gR_Y36, cV_Y, bk_some, bind_some', zb_0, zb_1, zb_or, cc_or, kset_1, kset_21, kint_1, kint_21, kint_22, putY_moved, if_true, if_false, not_true_eq_false, not_false_eq_true, Bool.false_eq_true, Bool.true_eq_false, reduceIte, ite_true, ite_false]
  · have h1 := Bool.eq_false_iff.mpr h1
    simp only [h1, m_isBeast, m_isPerson, m_isPlace, p_hasBit, p_in32 (x := y) (a := 0) (b := 3) (a' := 0) (b' := 3) rfl rfl, p_in32 (x := y) (a := 0) (b := 999) (a' := 0) (b' := 999) rfl rfl, sF_Y19, gI_Y0, gR_Y1, gR_Y2, gR_Y3, gR_Y4, gR_Y5, gI_Y6, gR_Y7, gR_Y8, gR_Y9, gR_Y10, gI_Y11, gI_Y12, gR_Y13, gR_Y14, gR_Y15, gR_Y16, gR_Y17, gR_Y18, gI_Y19, gI_Y20, gI_Y21, gI_Y22, gI_Y23, gR_Y24, gR_Y25, gR_Y26, gR_Y27, gR_Y28, gI_Y29, gI_Y30, gI_Y31, gR_Y33, gR_Y34, gI_Y35, gR_Y36, cV_Y, bk_some, bind_some', zb_0, zb_1, zb_or, cc_or, kset_1, kset_21, kint_1, kint_21, kint_22, putY_moved, if_true, if_false, not_true_eq_false, not_false_eq_true, Bool.false_eq_true, Bool.true_eq_false, reduceIte, ite_true, ite_false]
theorem means_WF {κ : aK} (hW : WF κ) (x y : Int32) : WF (meansK x y κ).2 := by
  unfold meansK
  by_cases h1 : inR x 0 4 = true
  · rw [if_pos h1]
    by_cases h2 : inR y 0 999 = true
    · rw [if_pos h2]
      obtain ⟨q, hq, rfl⟩ := in999 h2
      exact hW.purse hq
    · rw [if_neg h2]; exact hW
  · rw [if_neg h1]; exact hW
