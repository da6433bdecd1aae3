/-! PURE: bits counted, days, and the plain changes from the object -/
def popI (x : Int32) : Int32 := ((f_J6_bitCount_0f7a4 x (fun _ => .inr (0, []))).elim 0 (fun r => r.1))
theorem p_bitCount (x : Int32) (w : aW) : f_J6_bitCount_0f7a4 x w = some (popI x, w) := rfl
def onesI : Nat → Int32 → Int32 → Option Int32
  | 0, _, _ => none
  | n + 1, b, x => if x = 0 then some b else onesI n (b + 1) (x &&& (x - 1))
theorem ones_loop (a0 : Int32) (w : aW) : ∀ (n m : Nat) (b x r : Int32), onesI n b x = some r → loop3 (c_X4_onesOf_4 a0) (n + m) b x w = some (r, w)
  | 0, _, _, _, _, h => by cases h
  | n + 1, m, b, x, r, h => by
    rw [Nat.add_right_comm]
    show c_X4_onesOf_4 a0 (loop3 (c_X4_onesOf_4 a0) (n + m)) b x w = _
    unfold c_X4_onesOf_4
    unfold onesI at h
    by_cases hx : x = 0
    · rw [if_pos hx] at h ⊢
      cases h; rfl
    · rw [if_neg hx] at h ⊢
      exact ones_loop a0 w n m _ _ r h
theorem ones_pop : ∀ a, a < 512 → onesI 12 0 (nI a) = some (popI (nI a)) := by decide +kernel
theorem pop_rng : ∀ a, a < 512 → popI (nI a) = nI (popI (nI a)).toNatClampNeg ∧ (popI (nI a)).toNatClampNeg ≤ 9 := by decide +kernel
theorem m_onesOf {a : Nat} (ha : a < 512) (w : aW) : f_X4_onesOf (nI a) w = some (popI (nI a), w) := ones_loop _ w 12 988 0 _ _ (ones_pop a ha)
theorem m_onesOf' {x : Int32} (h : ∃ a, a < 512 ∧ x = nI a) (w : aW) : f_X4_onesOf x w = some (popI x, w) := by
  obtain ⟨a, ha, rfl⟩ := h
  exact m_onesOf ha w
def daysOp (x : Int32) (κ : aK) : Int32 × aK := if inR x 1 60 = true then (if κ.2.1 0 + x ≤ 999 then (popI ((daysK (ix x) κ).2.1 1), daysK (ix x) κ) else (-3, κ)) else (-1, κ)
theorem in60 {x : Int32} (h : inR x 1 60 = true) : ∃ n, n ≤ 60 ∧ x = nI n := by
  unfold inR at h
  rw [Bool.and_eq_true, decide_eq_true_eq, decide_eq_true_eq] at h
  refine inR_nI (n := 60) (by decide) ?_
  unfold inR
  rw [decide_eq_true (Int32.le_trans (by decide) h.1), decide_eq_true (show x ≤ nI 60 from h.2)]
  rfl
theorem p_goDays {w : aW} {j : Nat} (hj : j + 9 < 75) {κ : aK} (hW : WF κ) (x : Int32) : f_X0_goDays j x (putM w j κ) = some ((daysOp x κ).1, putM w j (daysOp x κ).2) := by
  unfold f_X0_goDays daysOp
  by_cases h1 : inR x 1 60 = true
  · by_cases h2 : κ.2.1 0 + x ≤ 999
    · obtain ⟨n, hn, rfl⟩ := in60 h1
      simp only [p_within, h1, h2, gI_M0 hj, gI_M1 hj, gI_M2 hj, gI_M3 hj, gR_M4 hj, gR_M5 hj, gR_M6 hj, gR_M7 hj, gR_M8 hj, gR_M9 hj, gR_M10 hj, gR_M11 hj, gR_M12 hj, cV_M hj, bk_some, bind_some', zb_0, zb_1, zb_or, cc_or, kset_1, kset_21, kint_1, kint_21, kint_22, if_true, if_false, not_true_eq_false, not_false_eq_true, Bool.false_eq_true, Bool.true_eq_false, reduceIte, ite_true, ite_false, ix_nI (show n < 2 ^ 31 by omega)]
      exact for2 (fun κ : aK => putM w j κ) (c_X0_goDays_29 j (nI n)) n (fun _ κ => passK 0 κ) (fun κ => some (popI (κ.2.1 1), putM w j κ)) (fun _ κ => WF κ)
        (fun k i κ hi hκ => by
          simp only [c_X0_goDays_29, le_nI (show n < 2 ^ 31 by omega) (show i < 2 ^ 31 by omega), Nat.not_le.mpr hi, gI_M0 hj, gI_M1 hj, gI_M2 hj, gI_M3 hj, gR_M4 hj, gR_M5 hj, gR_M6 hj, gR_M7 hj, gR_M8 hj, gR_M9 hj, gR_M10 hj, gR_M11 hj, gR_M12 hj, cV_M hj, bk_some, bind_some', zb_0, zb_1, zb_or, cc_or, kset_1, kset_21, kint_1, kint_21, kint_22, p_passDay0 hj hκ, if_true, if_false, not_true_eq_false, not_false_eq_true, Bool.false_eq_true, Bool.true_eq_false, reduceIte, ite_true, ite_false, nI_1])
        (fun i κ hi hκ => pass_WF hκ (m := 0) (by decide)) (fun k κ _ => by simp only [c_X0_goDays_29, Int32.le_refl, p_bitCount, gI_M0 hj, gI_M1 hj, gI_M2 hj, gI_M3 hj, gR_M4 hj, gR_M5 hj, gR_M6 hj, gR_M7 hj, gR_M8 hj, gR_M9 hj, gR_M10 hj, gR_M11 hj, gR_M12 hj, cV_M hj, bk_some, bind_some', zb_0, zb_1, zb_or, cc_or, kset_1, kset_21, kint_1, kint_21, kint_22, if_true, if_false, not_true_eq_false, not_false_eq_true, Bool.false_eq_true, Bool.true_eq_false, reduceIte, ite_true, ite_false]) n 0 κ a_fuel (by omega) (show n < 1000 by omega) hW
    · simp only [p_within, h1, h2, gI_M0 hj, gI_M1 hj, gI_M2 hj, gI_M3 hj, gR_M4 hj, gR_M5 hj, gR_M6 hj, gR_M7 hj, gR_M8 hj, gR_M9 hj, gR_M10 hj, gR_M11 hj, gR_M12 hj, cV_M hj, bk_some, bind_some', zb_0, zb_1, zb_or, cc_or, kset_1, kset_21, kint_1, kint_21, kint_22, if_true, if_false, not_true_eq_false, not_false_eq_true, Bool.false_eq_true, Bool.true_eq_false, reduceIte, ite_true, ite_false]
  · have h1 := Bool.eq_false_iff.mpr h1
    simp only [p_within, h1, gI_M0 hj, gI_M1 hj, gI_M2 hj, gI_M3 hj, gR_M4 hj, gR_M5 hj, gR_M6 hj, gR_M7 hj, gR_M8 hj, gR_M9 hj, gR_M10 hj, gR_M11 hj, gR_M12 hj, cV_M hj, bk_some, bind_some', zb_0, zb_1, zb_or, cc_or, kset_1, kset_21, kint_1, kint_21, kint_22, if_true, if_false, not_true_eq_false, not_false_eq_true, Bool.false_eq_true, Bool.true_eq_false, reduceIte, ite_true, ite_false]
theorem m_days (w : aW) (Y : aY) {κ : aK} (hW : WF κ) (hs : Y.1 0 = 0) (x : Int32) : f_X4_days 50 x (putY w κ Y) = some ((daysOp x κ).1, putY w (daysOp x κ).2 (yint Y 1 0)) := by
  unfold f_X4_days daysOp
  by_cases h1 : inR x 1 60 = true
  · by_cases h2 : κ.2.1 0 + x ≤ 999
    · obtain ⟨n, hn, rfl⟩ := in60 h1
      have hs' : (yint Y 1 0).1 0 = 0 := hs
      simp only [p_in32 (x := nI n) (a := 1) (b := 60) (a' := 1) (b' := 60) rfl rfl, h1, h2, sF_Y19, gI_Y0, gR_Y1, gR_Y2, gR_Y3, gR_Y4, gR_Y5, gI_Y6, gR_Y7, gR_Y8, gR_Y9, gR_Y10, gI_Y11, gI_Y12, gR_Y13, gR_Y14, gR_Y15, gR_Y16, gR_Y17, gR_Y18, gI_Y19, gI_Y20, gI_Y21, gI_Y22, gI_Y23, gR_Y24, gR_Y25, gR_Y26, gR_Y27, gR_Y28, gI_Y29, gI_Y30, gI_Y31, gR_Y33, gR_Y34, gI_Y35, gR_Y36, cV_Y, bk_some, bind_some', zb_0, zb_1, zb_or, cc_or, kset_1, kset_21, kint_1, kint_21, kint_22, putY_moved, if_true, if_false, not_true_eq_false, not_false_eq_true, Bool.false_eq_true, Bool.true_eq_false, reduceIte, ite_true, ite_false, m_goDays w _ hW hs' (show n < 1000 by omega), m_onesOf' (days_WF hW n).2.2.2.1, ix_nI (show n < 2 ^ 31 by omega)]
    · simp only [p_in32 (x := x) (a := 1) (b := 60) (a' := 1) (b' := 60) rfl rfl, h1, h2, sF_Y19, gI_Y0, gR_Y1, gR_Y2, gR_Y3, gR_Y4, gR_Y5, gI_Y6, gR_Y7, gR_Y8, gR_Y9, gR_Y10, gI_Y11, gI_Y12, gR_Y13, gR_Y14, gR_Y15, gR_Y16, gR_Y17, gR_Y18, gI_Y19, gI_Y20, gI_Y21, gI_Y22, gI_Y23, gR_Y24, gR_Y25, gR_Y26, gR_Y27, gR_Y28, gI_Y29, gI_Y30, gI_Y31, gR_Y33, gR_Y34, gI_Y35, gR_Y36, cV_Y, bk_some, bind_some', zb_0, zb_1, zb_or, cc_or, kset_1, kset_21, kint_1, kint_21, kint_22, putY_moved, if_true, if_false, not_true_eq_false, not_false_eq_true, Bool.false_eq_true, Bool.true_eq_false, reduceIte, ite_true, ite_false]
  · have h1 := Bool.eq_false_iff.mpr h1
    simp only [p_in32 (x := x) (a := 1) (b := 60) (a' := 1) (b' := 60) rfl rfl, h1, sF_Y19, gI_Y0, gR_Y1, gR_Y2, gR_Y3, gR_Y4, gR_Y5, gI_Y6, gR_Y7, gR_Y8, gR_Y9, gR_Y10, gI_Y11, gI_Y12, gR_Y13, gR_Y14, gR_Y15, gR_Y16, gR_Y17, gR_Y18, gI_Y19, gI_Y20, gI_Y21, gI_Y22, gI_Y23, gR_Y24, gR_Y25, gR_Y26, gR_Y27, gR_Y28, gI_Y29, gI_Y30, gI_Y31, gR_Y33, gR_Y34, gI_Y35, gR_Y36, cV_Y, bk_some, bind_some', zb_0, zb_1, zb_or, cc_or, kset_1, kset_21, kint_1, kint_21, kint_22, putY_moved, if_true, if_false, not_true_eq_false, not_false_eq_true, Bool.false_eq_true, Bool.true_eq_false, reduceIte, ite_true, ite_false]
theorem daysOp_WF {κ : aK} (hW : WF κ) (x : Int32) : WF (daysOp x κ).2 := by
  unfold daysOp
  by_cases h1 : inR x 1 60 = true
  · rw [if_pos h1]
    by_cases h2 : κ.2.1 0 + x ≤ 999
    · rw [if_pos h2]; exact days_WF hW _
    · rw [if_neg h2]; exact hW
  · rw [if_neg h1]; exact hW
theorem gR_N0 (w : aW) (X : aX) (κ : aK) : gR 2 (putM (putX w X) 1 κ) 0 0 = some 1 := by rw [gR_out _ _ _ (by decide), gR_X0]
theorem x_stands (w : aW) {X : aX} (hW : WF X.1) (x y : Int32) : f_X3_stands 0 x y (putX w X) = some ((standsK x y X.1).1, putX w (xnow X (standsK x y X.1).2)) := by
  rw [X_now w X]
  unfold f_X3_stands
  simp only [gR_N0, bind_some', cV_M (show 1 + 9 < 75 by decide), p_stands (show 1 + 9 < 75 by decide) hW.1, bk_some]
  rw [X_now']
theorem x_walks (w : aW) {X : aX} (hW : WF X.1) (x y : Int32) : f_X3_walks 0 x y (putX w X) = some ((walksK x y X.1).1, putX w (xnow X (walksK x y X.1).2)) := by
  rw [X_now w X]
  unfold f_X3_walks
  simp only [gR_N0, bind_some', cV_M (show 1 + 9 < 75 by decide), p_walks (show 1 + 9 < 75 by decide) hW.1, bk_some]
  rw [X_now']
theorem x_calls (w : aW) {X : aX} (hW : WF X.1) (x y : Int32) : f_X3_calls 0 x y (putX w X) = some ((callsK x y X.1).1, putX w (xnow X (callsK x y X.1).2)) := by
  rw [X_now w X]
  unfold f_X3_calls
  simp only [gR_N0, bind_some', cV_M (show 1 + 9 < 75 by decide), p_calls (show 1 + 9 < 75 by decide) hW.1, bk_some]
  rw [X_now']
theorem x_answers (w : aW) {X : aX} (hW : WF X.1) (x : Int32) : f_X3_answers 0 x (putX w X) = some ((answersK x X.1).1, putX w (xnow X (answersK x X.1).2)) := by
  rw [X_now w X]
  unfold f_X3_answers
  simp only [gR_N0, bind_some', cV_M (show 1 + 9 < 75 by decide), p_answers (show 1 + 9 < 75 by decide) hW.1, bk_some]
  rw [X_now']
theorem x_tongue (w : aW) {X : aX} (hW : WF X.1) (x y : Int32) : f_X3_tongue 0 x y (putX w X) = some ((tongueK x y X.1).1, putX w (xnow X (tongueK x y X.1).2)) := by
  rw [X_now w X]
  unfold f_X3_tongue
  simp only [gR_N0, bind_some', cV_M (show 1 + 9 < 75 by decide), p_tongue (show 1 + 9 < 75 by decide) hW.1, bk_some]
  rw [X_now']
theorem x_means (w : aW) {X : aX} (hW : WF X.1) (x y : Int32) : f_X3_means 0 x y (putX w X) = some ((meansK x y X.1).1, putX w (xnow X (meansK x y X.1).2)) := by
  rw [X_now w X]
  unfold f_X3_means
  simp only [gR_N0, bind_some', cV_M (show 1 + 9 < 75 by decide), p_means (show 1 + 9 < 75 by decide) hW.1, bk_some]
  rw [X_now']
theorem x_days (w : aW) {X : aX} (hW : WF X.1) (x : Int32) : f_X3_days 0 x (putX w X) = some ((daysOp x X.1).1, putX w (xnow X (daysOp x X.1).2)) := by
  rw [X_now w X]
  unfold f_X3_days
  simp only [gR_N0, bind_some', cV_M (show 1 + 9 < 75 by decide), p_goDays (show 1 + 9 < 75 by decide) hW, bk_some]
  rw [X_now']
