/-! PURE: judged, forged, comes, count, of, image, restore, copy: at both sides -/
def meansAllK (κ : aK) : Int32 := itr (fun p s => s + κ.2.2 5 p) 0 5 0
def griefAllK (κ : aK) : Int32 := itr (fun p s => s + κ.2.2 8 p) 0 5 0
theorem p_meansOfAll {w : aW} {j : Nat} (hj : j + 9 < 75) (κ : aK) : f_X0_meansOfAll j (putM w j κ) = some (meansAllK κ, putM w j κ) := by
  unfold f_X0_meansOfAll
  exact for3 (fun s : Int32 => s) (fun _ => putM w j κ) (c_X0_meansOfAll_4 j) 5 (fun p s => s + κ.2.2 5 p) (fun s => some (s, putM w j κ)) (fun _ _ => True) (fun k i s hi _ => by
    simp only [c_X0_meansOfAll_4, le_5 hi, gI_M0 hj, gI_M1 hj, gI_M2 hj, gI_M3 hj, gR_M4 hj, gR_M5 hj, gR_M6 hj, gR_M7 hj, gR_M8 hj, gR_M9 hj, gR_M10 hj, gR_M11 hj, gR_M12 hj, cV_M hj, bk_some, bind_some', zb_0, zb_1, zb_or, cc_or, kset_1, kset_21, kint_1, kint_21, kint_22, gA_M5 hj κ hi, if_true, if_false, not_true_eq_false, not_false_eq_true, Bool.false_eq_true, Bool.true_eq_false, reduceIte, ite_true, ite_false, nI_1]) (fun _ _ _ _ => trivial) (fun k s _ => by simp only [c_X0_meansOfAll_4]; rfl) 5 0 0 a_fuel rfl (by decide) trivial
theorem p_griefOfAll {w : aW} {j : Nat} (hj : j + 9 < 75) (κ : aK) : f_X0_griefOfAll j (putM w j κ) = some (griefAllK κ, putM w j κ) := by
  unfold f_X0_griefOfAll
  exact for3 (fun s : Int32 => s) (fun _ => putM w j κ) (c_X0_griefOfAll_4 j) 5 (fun p s => s + κ.2.2 8 p) (fun s => some (s, putM w j κ)) (fun _ _ => True) (fun k i s hi _ => by
    simp only [c_X0_griefOfAll_4, le_5 hi, gI_M0 hj, gI_M1 hj, gI_M2 hj, gI_M3 hj, gR_M4 hj, gR_M5 hj, gR_M6 hj, gR_M7 hj, gR_M8 hj, gR_M9 hj, gR_M10 hj, gR_M11 hj, gR_M12 hj, cV_M hj, bk_some, bind_some', zb_0, zb_1, zb_or, cc_or, kset_1, kset_21, kint_1, kint_21, kint_22, gA_M8 hj κ hi, if_true, if_false, not_true_eq_false, not_false_eq_true, Bool.false_eq_true, Bool.true_eq_false, reduceIte, ite_true, ite_false, nI_1]) (fun _ _ _ _ => trivial) (fun k s _ => by simp only [c_X0_griefOfAll_4]; rfl) 5 0 0 a_fuel rfl (by decide) trivial
theorem m_allMeans (w : aW) (κ : aK) (Y : aY) : f_X4_allMeans 50 (putY w κ Y) = some (meansAllK κ, putY w κ Y) := by
  unfold f_X4_allMeans
  exact for3 (fun s : Int32 => s) (fun _ => putY w κ Y) (c_X4_allMeans_4 50) 5 (fun p s => s + κ.2.2 5 p) (fun s => some (s, putY w κ Y)) (fun _ _ => True) (fun k i s hi _ => by
    simp only [c_X4_allMeans_4, le_5 hi, gI_Y0, gR_Y1, gR_Y2, gR_Y3, gR_Y4, gR_Y5, gI_Y6, gR_Y7, gR_Y8, gR_Y9, gR_Y10, gI_Y11, gI_Y12, gR_Y13, gR_Y14, gR_Y15, gR_Y16, gR_Y17, gR_Y18, gI_Y19, gI_Y20, gI_Y21, gI_Y22, gI_Y23, gR_Y24, gR_Y25, gR_Y26, gR_Y27, gR_Y28, gI_Y29, gI_Y30, gI_Y31, gR_Y33, gR_Y34, gI_Y35, gR_Y36, cV_Y, bk_some, bind_some', zb_0, zb_1, zb_or, cc_or, kset_1, kset_21, kint_1, kint_21, kint_22, putY_moved, gA_Y56 w κ Y hi, if_true, if_false, not_true_eq_false, not_false_eq_true, Bool.false_eq_true, Bool.true_eq_false, reduceIte, ite_true, ite_false, nI_1]) (fun _ _ _ _ => trivial) (fun k s _ => by simp only [c_X4_allMeans_4]; rfl) 5 0 0 a_fuel rfl (by decide) trivial
theorem m_allGrief (w : aW) (κ : aK) (Y : aY) : f_X4_allGrief 50 (putY w κ Y) = some (griefAllK κ, putY w κ Y) := by
  unfold f_X4_allGrief
  exact for3 (fun s : Int32 => s) (fun _ => putY w κ Y) (c_X4_allGrief_4 50) 5 (fun p s => s + κ.2.2 8 p) (fun s => some (s, putY w κ Y)) (fun _ _ => True) (fun k i s hi _ => by
    simp only [c_X4_allGrief_4, le_5 hi, gI_Y0, gR_Y1, gR_Y2, gR_Y3, gR_Y4, gR_Y5, gI_Y6, gR_Y7, gR_Y8, gR_Y9, gR_Y10, gI_Y11, gI_Y12, gR_Y13, gR_Y14, gR_Y15, gR_Y16, gR_Y17, gR_Y18, gI_Y19, gI_Y20, gI_Y21, gI_Y22, gI_Y23, gR_Y24, gR_Y25, gR_Y26, gR_Y27, gR_Y28, gI_Y29, gI_Y30, gI_Y31, gR_Y33, gR_Y34, gI_Y35, gR_Y36, cV_Y, bk_some, bind_some', zb_0, zb_1, zb_or, cc_or, kset_1, kset_21, kint_1, kint_21, kint_22, putY_moved, gA_Y59 w κ Y hi, if_true, if_false, not_true_eq_false, not_false_eq_true, Bool.false_eq_true, Bool.true_eq_false, reduceIte, ite_true, ite_false, nI_1]) (fun _ _ _ _ => trivial) (fun k s _ => by simp only [c_X4_allGrief_4]; rfl) 5 0 0 a_fuel rfl (by decide) trivial
theorem N_meansOfAll (w : aW) (X : aX) : f_X0_meansOfAll 1 (putX w X) = some (meansAllK X.1, putX w X) := by
  rw [X_now w X]; exact p_meansOfAll d10 _
theorem T_meansOfAll (w : aW) (X : aX) : f_X0_meansOfAll 11 (putX w X) = some (meansAllK X.2.1, putX w X) := by
  rw [X_mind w X]; exact p_meansOfAll d20 _
theorem N_griefOfAll (w : aW) (X : aX) : f_X0_griefOfAll 1 (putX w X) = some (griefAllK X.1, putX w X) := by
  rw [X_now w X]; exact p_griefOfAll d10 _
theorem T_griefOfAll (w : aW) (X : aX) : f_X0_griefOfAll 11 (putX w X) = some (griefAllK X.2.1, putX w X) := by
  rw [X_mind w X]; exact p_griefOfAll d20 _
/-! judged -/
theorem judgeX (w : aW) (X : aX) (x : Int32) {d N : Nat} (hd : d < 8) (hν : WFs (X.2.2.2.2.1 d)) (hN : N ≤ 100) (he : (X.2.2.2.2.1 d).1 4 = nI N) : ∀ (m i : Nat) (κ : aK) (n : Nat), i + m = N → m < n → WF κ → ∃ μ, loop3 (c_X3_judge_30 0 x) n (34 + 2 * d) (nI i) (putX w (xmind X κ)) = some (o4 (rowO (okS (X.2.2.2.2.1 d)) meansAllK m i κ), putX w (xmind X μ))
  | 0, i, κ, n + 1, hm, _, _ => by
    have : i = N := by omega
    subst this
    refine ⟨κ, ?_⟩
    rw [loop3_s]
    simp only [c_X3_judge_30, S_gI4 w (xmind X κ) hd, xmind_s, he, bind_some', Int32.le_refl, if_true, if_false, not_true_eq_false, not_false_eq_true, Bool.false_eq_true, Bool.true_eq_false, reduceIte, ite_true, ite_false]
    rfl
  | m + 1, i, κ, n + 1, hm, hn, hW => by
    rw [loop3_s]
    have hlt : ¬ nI N ≤ nI i := le_nIb (by omega) (by omega) (by omega)
    unfold rowO
    by_cases hT : tellS (X.2.2.2.2.1 d) (nI i) = true
    · by_cases hv : atS (X.2.2.2.2.1 d) (nI i) = meansAllK κ
      · obtain ⟨μ, hμ⟩ := judgeX w X x hd hν hN he m (i + 1) (passK 0 κ) n (by omega) (by omega) (pass_WF hW (m := 0) (by decide))
        refine ⟨μ, ?_⟩
        rw [if_pos (show okS (X.2.2.2.2.1 d) i (meansAllK κ) = true by unfold okS; rw [decide_eq_true hv, Bool.or_true])]
        simp only [c_X3_judge_30, S_gI4 w (xmind X κ) hd, S_cV w (xmind X κ) hd, S_tells w (xmind X κ) hd hν, S_at w (xmind X κ) hd hν, xmind_s, he, hlt, hT, hv, gR_X0, gR_X1, gR_X2, gI_X3, gR_X4, gR_X5, gR_X6, cV_X, x_think, xmind_1, xmind_0, xmind_2, xnow_0, xnow_1, xnow_2, bk_some, bind_some', zb_0, zb_1, zb_or, cc_or, T_cV, T_gI0, T_gI1, T_gI2, T_gI3, T_gR4, T_gR5, T_gR6, T_gR7, T_gR8, T_gR9, T_gR10, T_gR11, T_gR12, T_hasBeast, T_isAlive, T_calledBy, T_calledByAnybody, T_needTogether, T_workTogether, T_freeOnes, T_meansOfAll, T_passDay w (X := xmind X κ) hW, nI_1, if_true, if_false, not_true_eq_false, not_false_eq_true, Bool.false_eq_true, Bool.true_eq_false, reduceIte, ite_true, ite_false]
        exact hμ
      · refine ⟨κ, ?_⟩
        rw [if_neg (show ¬ okS (X.2.2.2.2.1 d) i (meansAllK κ) = true by unfold okS; rw [hT, decide_eq_false hv]; decide)]
        simp only [c_X3_judge_30, S_gI4 w (xmind X κ) hd, S_cV w (xmind X κ) hd, S_tells w (xmind X κ) hd hν, S_at w (xmind X κ) hd hν, xmind_s, he, hlt, hT, hv, gR_X0, gR_X1, gR_X2, gI_X3, gR_X4, gR_X5, gR_X6, cV_X, x_think, xmind_1, xmind_0, xmind_2, xnow_0, xnow_1, xnow_2, bk_some, bind_some', zb_0, zb_1, zb_or, cc_or, T_cV, T_gI0, T_gI1, T_gI2, T_gI3, T_gR4, T_gR5, T_gR6, T_gR7, T_gR8, T_gR9, T_gR10, T_gR11, T_gR12, T_hasBeast, T_isAlive, T_calledBy, T_calledByAnybody, T_needTogether, T_workTogether, T_freeOnes, T_meansOfAll, if_true, if_false, not_true_eq_false, not_false_eq_true, Bool.false_eq_true, Bool.true_eq_false, reduceIte, ite_true, ite_false]
        rfl
    · have hT := Bool.eq_false_iff.mpr hT
      obtain ⟨μ, hμ⟩ := judgeX w X x hd hν hN he m (i + 1) (passK 0 κ) n (by omega) (by omega) (pass_WF hW (m := 0) (by decide))
      refine ⟨μ, ?_⟩
      rw [if_pos (show okS (X.2.2.2.2.1 d) i (meansAllK κ) = true by unfold okS; rw [hT]; rfl)]
      simp only [c_X3_judge_30, S_gI4 w (xmind X κ) hd, S_cV w (xmind X κ) hd, S_tells w (xmind X κ) hd hν, xmind_s, he, hlt, hT, gR_X0, gR_X1, gR_X2, gI_X3, gR_X4, gR_X5, gR_X6, cV_X, x_think, xmind_1, xmind_0, xmind_2, xnow_0, xnow_1, xnow_2, bk_some, bind_some', zb_0, zb_1, zb_or, cc_or, T_cV, T_gI0, T_gI1, T_gI2, T_gI3, T_gR4, T_gR5, T_gR6, T_gR7, T_gR8, T_gR9, T_gR10, T_gR11, T_gR12, T_hasBeast, T_isAlive, T_calledBy, T_calledByAnybody, T_needTogether, T_workTogether, T_freeOnes, T_passDay w (X := xmind X κ) hW, nI_1, if_true, if_false, not_true_eq_false, not_false_eq_true, Bool.false_eq_true, Bool.true_eq_false, reduceIte, ite_true, ite_false]
      exact hμ
def judgeK (x : Int32) (κ : aK) (σ : Nat → aS) : Int32 := if inR x 0 7 = true then (if rowR (σ (ix x)) = 0 then o4 (rowO (okS (σ (ix x))) meansAllK (szN (σ (ix x))) 0 κ) else rowR (σ (ix x))) else -1
theorem x_judge (w : aW) {X : aX} (hW : WF X.1) (hS : ∀ d, d < 8 → WFs (X.2.2.2.2.1 d)) (x : Int32) : ∃ μ, f_X3_judge 0 x (putX w X) = some (judgeK x X.1 X.2.2.2.2.1, putX w (xmind X μ)) := by
  unfold f_X3_judge judgeK
  by_cases h1 : inR x 0 7 = true
  · obtain ⟨d, hd, rfl⟩ := in7 h1
    by_cases h2 : rowR (X.2.2.2.2.1 d) = 0
    · obtain ⟨N, hN, he⟩ := (hS d hd).2.1
      obtain ⟨μ, hμ⟩ := judgeX w X (nI d) hd (hS d hd) hN he N 0 X.1 a_fuel (by omega) (show N < 1000 by omega) hW
      refine ⟨μ, ?_⟩
      simp only [h1, h2, gR_X0, gR_X1, gR_X2, gI_X3, gR_X4, gR_X5, gR_X6, cV_X, x_think, xmind_1, xmind_0, xmind_2, xnow_0, xnow_1, xnow_2, bk_some, bind_some', zb_0, zb_1, zb_or, cc_or, x_shelfAt w X hd, oc_some, S_cV w X hd, S_rowRefusal w X hd, ix7 hd, sz_of hN he, if_true, if_false, not_true_eq_false, not_false_eq_true, Bool.false_eq_true, Bool.true_eq_false, reduceIte, ite_true, ite_false]
      exact hμ
    · refine ⟨X.2.1, ?_⟩
      simp only [h1, h2, gR_X0, gR_X1, gR_X2, gI_X3, gR_X4, gR_X5, gR_X6, cV_X, x_think, xmind_1, xmind_0, xmind_2, xnow_0, xnow_1, xnow_2, bk_some, bind_some', zb_0, zb_1, zb_or, cc_or, x_shelfAt w X hd, oc_some, S_cV w X hd, S_rowRefusal w X hd, ix7 hd, if_true, if_false, not_true_eq_false, not_false_eq_true, Bool.false_eq_true, Bool.true_eq_false, reduceIte, ite_true, ite_false]
      rfl
  · have h1 := Bool.eq_false_iff.mpr h1
    refine ⟨X.2.1, ?_⟩
    simp only [h1, gR_X0, gR_X1, gR_X2, gI_X3, gR_X4, gR_X5, gR_X6, cV_X, x_think, xmind_1, xmind_0, xmind_2, xnow_0, xnow_1, xnow_2, bk_some, bind_some', zb_0, zb_1, zb_or, cc_or, x_shelfNo w X h1, oc_none, if_true, if_false, not_true_eq_false, not_false_eq_true, Bool.false_eq_true, Bool.true_eq_false, reduceIte, ite_true, ite_false]
    rfl
theorem judge_end (w : aW) {κ0 κ : aK} (hk9 : κ0.1 ≤ 9) {Y : aY} {σ : Nat → aS} (hC : Cp σ Y) {d N : Nat} (hd : d < 8) (h2 : (σ d).1 0 = 2) (he : (σ d).1 4 = nI N) (k : Int32 → Int32 → aW → Option (Int32 × aW)) (r : Int32) (i : Nat) (hK : Kept Y 8 κ0) (hor : nI N ≤ nI i ∨ 0 ≤ r) : ∃ Y', Yk Y Y' ∧ Kept Y' 8 κ0 ∧ c_X4_judge_27 50 (nI d) k r (nI i) (putY w κ Y) = some (r, putY w κ0 Y') := by
  obtain ⟨Y2, e2, hK2, ha⟩ := k_again w κ Y hk9 hK
  refine ⟨Y2, e2, hK2, ?_⟩
  obtain ⟨hν, hY⟩ := hC d hd
  obtain ⟨hk, hsz, hel⟩ := hY.2.2 h2
  by_cases hle : nI N ≤ nI i
  · simp only [c_X4_judge_27, gI_Y0, gR_Y1, gR_Y2, gR_Y3, gR_Y4, gR_Y5, gI_Y6, gR_Y7, gR_Y8, gR_Y9, gR_Y10, gI_Y11, gI_Y12, gR_Y13, gR_Y14, gR_Y15, gR_Y16, gR_Y17, gR_Y18, gI_Y19, gI_Y20, gI_Y21, gI_Y22, gI_Y23, gR_Y24, gR_Y25, gR_Y26, gR_Y27, gR_Y28, gI_Y29, gI_Y30, gI_Y31, gR_Y33, gR_Y34, gI_Y35, gR_Y36, cV_Y, bk_some, bind_some', zb_0, zb_1, zb_or, cc_or, kset_1, kset_21, kint_1, kint_21, kint_22, putY_moved, gA_Y64 w κ Y hd, hsz, he, hle, ha, if_true, if_false, not_true_eq_false, not_false_eq_true, Bool.false_eq_true, Bool.true_eq_false, reduceIte, ite_true, ite_false]
  · have hc := hor.resolve_left hle
    simp only [c_X4_judge_27, gI_Y0, gR_Y1, gR_Y2, gR_Y3, gR_Y4, gR_Y5, gI_Y6, gR_Y7, gR_Y8, gR_Y9, gR_Y10, gI_Y11, gI_Y12, gR_Y13, gR_Y14, gR_Y15, gR_Y16, gR_Y17, gR_Y18, gI_Y19, gI_Y20, gI_Y21, gI_Y22, gI_Y23, gR_Y24, gR_Y25, gR_Y26, gR_Y27, gR_Y28, gI_Y29, gI_Y30, gI_Y31, gR_Y33, gR_Y34, gI_Y35, gR_Y36, cV_Y, bk_some, bind_some', zb_0, zb_1, zb_or, cc_or, kset_1, kset_21, kint_1, kint_21, kint_22, putY_moved, gA_Y64 w κ Y hd, hsz, he, hle, hc, ha, if_true, if_false, not_true_eq_false, not_false_eq_true, Bool.false_eq_true, Bool.true_eq_false, reduceIte, ite_true, ite_false]
theorem judgeY (w : aW) {κ0 : aK} (hk9 : κ0.1 ≤ 9) {σ : Nat → aS} {d N : Nat} (hd : d < 8) (hN : N ≤ 100) (h2 : (σ d).1 0 = 2) (he : (σ d).1 4 = nI N) : ∀ (m i : Nat) (κ : aK) (Y : aY) (n : Nat), i + m = N → m + 1 < n → WF κ → Y.1 0 = 0 → Cp σ Y → Kept Y 8 κ0 → ∃ Y', Yk Y Y' ∧ Kept Y' 8 κ0 ∧ loop3 (c_X4_judge_27 50 (nI d)) n (-4) (nI i) (putY w κ Y) = some (o4 (rowO (okS (σ d)) meansAllK m i κ), putY w κ0 Y')
  | 0, i, κ, Y, n + 1, hm, _, _, _, hC, hK => by
    have : i = N := by omega
    subst this
    rw [loop3_s]
    exact judge_end w hk9 hC hd h2 he _ (-4) i hK (Or.inl (Int32.le_refl _))
  | m + 1, i, κ, Y, n + 1, hm, hn, hW, h0, hC, hK => by
    rw [loop3_s]
    have hlt : ¬ nI N ≤ nI i := le_nIb (by omega) (by omega) (by omega)
    obtain ⟨hν, hY⟩ := hC d hd
    obtain ⟨hk, hsz, hel⟩ := hY.2.2 h2
    have ev := hel i (by omega)
    have hat := at_in hN he (show i < N by omega)
    have hsk := m_isSkipped w κ hC hd hN h2 he (show i < N by omega)
    unfold rowO
    by_cases hT : tellS (σ d) (nI i) = true
    · rw [hT] at hsk
      by_cases hv : (σ d).2 i = meansAllK κ
      · obtain ⟨Y', e', hK', h'⟩ := judgeY w hk9 hd hN h2 he m (i + 1) (passK 0 κ) Y n (by omega) (by omega) (pass_WF hW (m := 0) (by decide)) h0 hC hK
        refine ⟨Y', e', hK', ?_⟩
        rw [if_pos (show okS (σ d) i (meansAllK κ) = true by unfold okS; rw [hat, decide_eq_true hv, Bool.or_true])]
        simp only [c_X4_judge_27, gI_Y0, gR_Y1, gR_Y2, gR_Y3, gR_Y4, gR_Y5, gI_Y6, gR_Y7, gR_Y8, gR_Y9, gR_Y10, gI_Y11, gI_Y12, gR_Y13, gR_Y14, gR_Y15, gR_Y16, gR_Y17, gR_Y18, gI_Y19, gI_Y20, gI_Y21, gI_Y22, gI_Y23, gR_Y24, gR_Y25, gR_Y26, gR_Y27, gR_Y28, gI_Y29, gI_Y30, gI_Y31, gR_Y33, gR_Y34, gI_Y35, gR_Y36, cV_Y, bk_some, bind_some', zb_0, zb_1, zb_or, cc_or, kset_1, kset_21, kint_1, kint_21, kint_22, putY_moved, gA_Y64 w κ Y hd, hsz, he, hlt, m4_neg, hsk, h100 d hd, nI_add, gL_Y65 w κ Y (show 100 * d + i < 800 by omega), ev, m_allMeans, cmp_eq, l64_eq, hv, m_dayOn0 w Y hW h0, nI_1, Bool.not_true, if_true, if_false, not_true_eq_false, not_false_eq_true, Bool.false_eq_true, Bool.true_eq_false, reduceIte, ite_true, ite_false]
        exact h'
      · obtain ⟨n', rfl⟩ : ∃ n', n = n' + 1 := ⟨n - 1, by omega⟩
        obtain ⟨Y', e', hK', h'⟩ := judge_end w (κ := passK 0 κ) hk9 hC hd h2 he (loop3 (c_X4_judge_27 50 (nI d)) n') (nI i) (i + 1) hK (Or.inr (nI_pos' (by omega)))
        refine ⟨Y', e', hK', ?_⟩
        rw [if_neg (show ¬ okS (σ d) i (meansAllK κ) = true by unfold okS; rw [hat, hT, decide_eq_false hv]; decide)]
        have hstep : ∀ k, c_X4_judge_27 50 (nI d) k (-4) (nI i) (putY w κ Y) = k (nI i) (nI (i + 1)) (putY w (passK 0 κ) Y) := fun k => by
          simp only [c_X4_judge_27, gI_Y0, gR_Y1, gR_Y2, gR_Y3, gR_Y4, gR_Y5, gI_Y6, gR_Y7, gR_Y8, gR_Y9, gR_Y10, gI_Y11, gI_Y12, gR_Y13, gR_Y14, gR_Y15, gR_Y16, gR_Y17, gR_Y18, gI_Y19, gI_Y20, gI_Y21, gI_Y22, gI_Y23, gR_Y24, gR_Y25, gR_Y26, gR_Y27, gR_Y28, gI_Y29, gI_Y30, gI_Y31, gR_Y33, gR_Y34, gI_Y35, gR_Y36, cV_Y, bk_some, bind_some', zb_0, zb_1, zb_or, cc_or, kset_1, kset_21, kint_1, kint_21, kint_22, putY_moved, gA_Y64 w κ Y hd, hsz, he, hlt, m4_neg, hsk, h100 d hd, nI_add, gL_Y65 w κ Y (show 100 * d + i < 800 by omega), ev, m_allMeans, cmp_eq, l64_eq, hv, m_dayOn0 w Y hW h0, nI_1, Bool.not_true, if_true, if_false, not_true_eq_false, not_false_eq_true, Bool.false_eq_true, Bool.true_eq_false, reduceIte, ite_true, ite_false]
        rw [hstep, loop3_s]
        exact h'
    · have hT := Bool.eq_false_iff.mpr hT
      rw [hT] at hsk
      obtain ⟨Y', e', hK', h'⟩ := judgeY w hk9 hd hN h2 he m (i + 1) (passK 0 κ) Y n (by omega) (by omega) (pass_WF hW (m := 0) (by decide)) h0 hC hK
      refine ⟨Y', e', hK', ?_⟩
      rw [if_pos (show okS (σ d) i (meansAllK κ) = true by unfold okS; rw [hT]; rfl)]
      simp only [c_X4_judge_27, gI_Y0, gR_Y1, gR_Y2, gR_Y3, gR_Y4, gR_Y5, gI_Y6, gR_Y7, gR_Y8, gR_Y9, gR_Y10, gI_Y11, gI_Y12, gR_Y13, gR_Y14, gR_Y15, gR_Y16, gR_Y17, gR_Y18, gI_Y19, gI_Y20, gI_Y21, gI_Y22, gI_Y23, gR_Y24, gR_Y25, gR_Y26, gR_Y27, gR_Y28, gI_Y29, gI_Y30, gI_Y31, gR_Y33, gR_Y34, gI_Y35, gR_Y36, cV_Y, bk_some, bind_some', zb_0, zb_1, zb_or, cc_or, kset_1, kset_21, kint_1, kint_21, kint_22, putY_moved, gA_Y64 w κ Y hd, hsz, he, hlt, m4_neg, hsk, m_dayOn0 w Y hW h0, nI_1, Bool.not_false, if_true, if_false, not_true_eq_false, not_false_eq_true, Bool.false_eq_true, Bool.true_eq_false, reduceIte, ite_true, ite_false]
      exact h'
theorem m_judge (w : aW) {Y : aY} {κ : aK} {σ : Nat → aS} (hC : Cp σ Y) (hW : WF κ) (hs : Y.1 0 = 0) (x : Int32) : ∃ Y', Yk Y Y' ∧ f_X4_judge 50 x (putY w κ Y) = some (judgeK x κ σ, putY w κ Y') := by
  have hk9 := hW.1
  have hC' := hC.thr 0
  have ew := m_wrongRow w κ hC' x
  unfold f_X4_judge judgeK
  by_cases h1 : inR x 0 7 = true
  · obtain ⟨d, hd, rfl⟩ := in7 h1
    have er : refR σ (nI d) = rowR (σ d) := by unfold refR; rw [if_pos h1, ix7 hd]
    rw [er] at ew
    by_cases h2 : rowR (σ d) = 0
    · have h20 := rowR_2 h2
      obtain ⟨N, hN, he⟩ := (hC' d hd).1.2.1
      obtain ⟨Y1, e1, hK, ht⟩ := k_think w (yint Y 1 0) hk9
      have hs1 : Y1.1 0 = 0 := e1.1.1.trans hs
      obtain ⟨Y2, e2, -, hl⟩ := judgeY w hk9 hd hN h20 he N 0 κ Y1 a_fuel (by omega) (show N + 1 < 1000 by omega) hW hs1 (hC'.yk e1) hK
      refine ⟨Y2, ((Yk.thrown Y 0).trans e1).trans e2, ?_⟩
      simp only [h1, h2, ew, sF_Y19, Int32.le_refl, gI_Y0, gR_Y1, gR_Y2, gR_Y3, gR_Y4, gR_Y5, gI_Y6, gR_Y7, gR_Y8, gR_Y9, gR_Y10, gI_Y11, gI_Y12, gR_Y13, gR_Y14, gR_Y15, gR_Y16, gR_Y17, gR_Y18, gI_Y19, gI_Y20, gI_Y21, gI_Y22, gI_Y23, gR_Y24, gR_Y25, gR_Y26, gR_Y27, gR_Y28, gI_Y29, gI_Y30, gI_Y31, gR_Y33, gR_Y34, gI_Y35, gR_Y36, cV_Y, bk_some, bind_some', zb_0, zb_1, zb_or, cc_or, kset_1, kset_21, kint_1, kint_21, kint_22, putY_moved, ht, ix7 hd, sz_of hN he, if_true, if_false, not_true_eq_false, not_false_eq_true, Bool.false_eq_true, Bool.true_eq_false, reduceIte, ite_true, ite_false]
      exact hl
    · refine ⟨yint Y 1 0, Yk.thrown Y 0, ?_⟩
      simp only [h1, h2, ew, sF_Y19, nle0 (rowR_neg h2), ix7 hd, gI_Y0, gR_Y1, gR_Y2, gR_Y3, gR_Y4, gR_Y5, gI_Y6, gR_Y7, gR_Y8, gR_Y9, gR_Y10, gI_Y11, gI_Y12, gR_Y13, gR_Y14, gR_Y15, gR_Y16, gR_Y17, gR_Y18, gI_Y19, gI_Y20, gI_Y21, gI_Y22, gI_Y23, gR_Y24, gR_Y25, gR_Y26, gR_Y27, gR_Y28, gI_Y29, gI_Y30, gI_Y31, gR_Y33, gR_Y34, gI_Y35, gR_Y36, cV_Y, bk_some, bind_some', zb_0, zb_1, zb_or, cc_or, kset_1, kset_21, kint_1, kint_21, kint_22, putY_moved, if_true, if_false, not_true_eq_false, not_false_eq_true, Bool.false_eq_true, Bool.true_eq_false, reduceIte, ite_true, ite_false]
  · have h1 := Bool.eq_false_iff.mpr h1
    have er : refR σ x = -1 := by unfold refR; rw [if_neg (by rw [h1]; decide)]
    rw [er] at ew
    refine ⟨yint Y 1 0, Yk.thrown Y 0, ?_⟩
    simp only [h1, ew, sF_Y19, m1_nle, gI_Y0, gR_Y1, gR_Y2, gR_Y3, gR_Y4, gR_Y5, gI_Y6, gR_Y7, gR_Y8, gR_Y9, gR_Y10, gI_Y11, gI_Y12, gR_Y13, gR_Y14, gR_Y15, gR_Y16, gR_Y17, gR_Y18, gI_Y19, gI_Y20, gI_Y21, gI_Y22, gI_Y23, gR_Y24, gR_Y25, gR_Y26, gR_Y27, gR_Y28, gI_Y29, gI_Y30, gI_Y31, gR_Y33, gR_Y34, gI_Y35, gR_Y36, cV_Y, bk_some, bind_some', zb_0, zb_1, zb_or, cc_or, kset_1, kset_21, kint_1, kint_21, kint_22, putY_moved, if_true, if_false, not_true_eq_false, not_false_eq_true, Bool.false_eq_true, Bool.true_eq_false, reduceIte, ite_true, ite_false]
/-! forged -/
def clrI (κ : aK) (i : Nat) : Int32 := if κ.2.2 4 i = -4 then 5 else κ.2.2 4 i
def forgN (ν : aS) (κ : aK) (i : Nat) : Bool := !(decide (i < κ.1) && decide (atS ν (nI i) = clrI κ i))
theorem inN_no {n i : Nat} (hn : n ≤ 9) (h : n ≤ i) (hi : i < 2 ^ 31) : inR (nI i) 0 (nI n - 1) = false := by
  cases hc : inR (nI i) 0 (nI n - 1)
  · rfl
  · obtain ⟨b, hb, he⟩ := inB hn hc
    rw [nI_eq hi (by omega)] at he
    omega
theorem forgX (w : aW) {X : aX} (hW : WF X.1) (x : Int32) {d N : Nat} (hd : d < 8) (hν : WFs (X.2.2.2.2.1 d)) (hN : N ≤ 100) (he : (X.2.2.2.2.1 d).1 4 = nI N) : ∀ (m i n : Nat), i + m = N → m < n → loop3 (c_X3_forged_26 0 x) n (34 + 2 * d) (nI i) (putX w X) = some (o4 (fndK (forgN (X.2.2.2.2.1 d) X.1) i m), putX w X)
  | 0, i, n + 1, hm, _ => by
    have : i = N := by omega
    subst this
    rw [loop3_s]
    simp only [c_X3_forged_26, S_gI4 w X hd, he, bind_some', Int32.le_refl, if_true, if_false, not_true_eq_false, not_false_eq_true, Bool.false_eq_true, Bool.true_eq_false, reduceIte, ite_true, ite_false]
    rfl
  | m + 1, i, n + 1, hm, hn => by
    rw [loop3_s, fnd_s]
    have hlt : ¬ nI N ≤ nI i := le_nIb (by omega) (by omega) (by omega)
    have hk9 := hW.1
    by_cases h1 : i < X.1.1
    · have hi9 : i < 9 := by omega
      have hb := inN_of (n := X.1.1) (by omega) h1
      by_cases h2 : atS (X.2.2.2.2.1 d) (nI i) = clrI X.1 i
      · have ih := forgX w hW x hd hν hN he m (i + 1) n (by omega) (by omega)
        rw [if_neg (show ¬ forgN (X.2.2.2.2.1 d) X.1 i = true by unfold forgN; rw [decide_eq_true h1, decide_eq_true h2]; decide), ← ih]
        unfold clrI at h2
        by_cases h3 : X.1.2.2 4 i = -4
        · simp only [h3, if_true] at h2
          simp only [c_X3_forged_26, c_X3_forged_79, S_gI4 w X hd, S_cV w X hd, he, hlt, gR_X0, gR_X1, gR_X2, gI_X3, gR_X4, gR_X5, gR_X6, cV_X, x_think, xmind_1, xmind_0, xmind_2, xnow_0, xnow_1, xnow_2, bk_some, bind_some', zb_0, zb_1, zb_or, cc_or, N_cV, N_gI0, N_gI1, N_gI2, N_gI3, N_gR4, N_gR5, N_gR6, N_gR7, N_gR8, N_gR9, N_gR10, N_gR11, N_gR12, N_hasBeast, N_isAlive, N_calledBy, N_calledByAnybody, N_needTogether, N_workTogether, N_freeOnes, hb, N_gA4 w X hi9, h3, S_at w X hd hν, h2, nI_1, if_true, if_false, not_true_eq_false, not_false_eq_true, Bool.false_eq_true, Bool.true_eq_false, reduceIte, ite_true, ite_false]
        · simp only [h3, if_false] at h2
          simp only [c_X3_forged_26, c_X3_forged_79, S_gI4 w X hd, S_cV w X hd, he, hlt, gR_X0, gR_X1, gR_X2, gI_X3, gR_X4, gR_X5, gR_X6, cV_X, x_think, xmind_1, xmind_0, xmind_2, xnow_0, xnow_1, xnow_2, bk_some, bind_some', zb_0, zb_1, zb_or, cc_or, N_cV, N_gI0, N_gI1, N_gI2, N_gI3, N_gR4, N_gR5, N_gR6, N_gR7, N_gR8, N_gR9, N_gR10, N_gR11, N_gR12, N_hasBeast, N_isAlive, N_calledBy, N_calledByAnybody, N_needTogether, N_workTogether, N_freeOnes, hb, N_gA4 w X hi9, h3, S_at w X hd hν, h2, nI_1, if_true, if_false, not_true_eq_false, not_false_eq_true, Bool.false_eq_true, Bool.true_eq_false, reduceIte, ite_true, ite_false]
      · rw [if_pos (show forgN (X.2.2.2.2.1 d) X.1 i = true by unfold forgN; rw [decide_eq_false h2, Bool.and_false]; rfl)]
        unfold clrI at h2
        by_cases h3 : X.1.2.2 4 i = -4
        · simp only [h3, if_true] at h2
          simp only [c_X3_forged_26, c_X3_forged_79, S_gI4 w X hd, S_cV w X hd, he, hlt, gR_X0, gR_X1, gR_X2, gI_X3, gR_X4, gR_X5, gR_X6, cV_X, x_think, xmind_1, xmind_0, xmind_2, xnow_0, xnow_1, xnow_2, bk_some, bind_some', zb_0, zb_1, zb_or, cc_or, N_cV, N_gI0, N_gI1, N_gI2, N_gI3, N_gR4, N_gR5, N_gR6, N_gR7, N_gR8, N_gR9, N_gR10, N_gR11, N_gR12, N_hasBeast, N_isAlive, N_calledBy, N_calledByAnybody, N_needTogether, N_workTogether, N_freeOnes, hb, N_gA4 w X hi9, h3, S_at w X hd hν, h2, if_true, if_false, not_true_eq_false, not_false_eq_true, Bool.false_eq_true, Bool.true_eq_false, reduceIte, ite_true, ite_false]
          rfl
        · simp only [h3, if_false] at h2
          simp only [c_X3_forged_26, c_X3_forged_79, S_gI4 w X hd, S_cV w X hd, he, hlt, gR_X0, gR_X1, gR_X2, gI_X3, gR_X4, gR_X5, gR_X6, cV_X, x_think, xmind_1, xmind_0, xmind_2, xnow_0, xnow_1, xnow_2, bk_some, bind_some', zb_0, zb_1, zb_or, cc_or, N_cV, N_gI0, N_gI1, N_gI2, N_gI3, N_gR4, N_gR5, N_gR6, N_gR7, N_gR8, N_gR9, N_gR10, N_gR11, N_gR12, N_hasBeast, N_isAlive, N_calledBy, N_calledByAnybody, N_needTogether, N_workTogether, N_freeOnes, hb, N_gA4 w X hi9, h3, S_at w X hd hν, h2, if_true, if_false, not_true_eq_false, not_false_eq_true, Bool.false_eq_true, Bool.true_eq_false, reduceIte, ite_true, ite_false]
          rfl
    · have hb := inN_no hk9 (show X.1.1 ≤ i by omega) (by omega)
      rw [if_pos (show forgN (X.2.2.2.2.1 d) X.1 i = true by unfold forgN; rw [decide_eq_false h1]; rfl)]
      simp only [c_X3_forged_26, S_gI4 w X hd, he, hlt, gR_X0, gR_X1, gR_X2, gI_X3, gR_X4, gR_X5, gR_X6, cV_X, x_think, xmind_1, xmind_0, xmind_2, xnow_0, xnow_1, xnow_2, bk_some, bind_some', zb_0, zb_1, zb_or, cc_or, N_cV, N_gI0, N_gI1, N_gI2, N_gI3, N_gR4, N_gR5, N_gR6, N_gR7, N_gR8, N_gR9, N_gR10, N_gR11, N_gR12, N_hasBeast, N_isAlive, N_calledBy, N_calledByAnybody, N_needTogether, N_workTogether, N_freeOnes, hb, if_true, if_false, not_true_eq_false, not_false_eq_true, Bool.false_eq_true, Bool.true_eq_false, reduceIte, ite_true, ite_false]
      rfl
def forgedK (x : Int32) (κ : aK) (σ : Nat → aS) : Int32 := if inR x 0 7 = true then (if rowR (σ (ix x)) = 0 then o4 (fndK (forgN (σ (ix x)) κ) 0 (szN (σ (ix x)))) else rowR (σ (ix x))) else -1
theorem x_forged (w : aW) {X : aX} (hW : WF X.1) (hS : ∀ d, d < 8 → WFs (X.2.2.2.2.1 d)) (x : Int32) : f_X3_forged 0 x (putX w X) = some (forgedK x X.1 X.2.2.2.2.1, putX w X) := by
  unfold f_X3_forged forgedK
  by_cases h1 : inR x 0 7 = true
  · obtain ⟨d, hd, rfl⟩ := in7 h1
    by_cases h2 : rowR (X.2.2.2.2.1 d) = 0
    · obtain ⟨N, hN, he⟩ := (hS d hd).2.1
      have hl := forgX w hW (nI d) hd (hS d hd) hN he N 0 a_fuel (by omega) (show N < 1000 by omega)
      simp only [h1, h2, gR_X0, gR_X1, gR_X2, gI_X3, gR_X4, gR_X5, gR_X6, cV_X, x_think, xmind_1, xmind_0, xmind_2, xnow_0, xnow_1, xnow_2, bk_some, bind_some', zb_0, zb_1, zb_or, cc_or, x_shelfAt w X hd, oc_some, S_cV w X hd, S_rowRefusal w X hd, ix7 hd, sz_of hN he, if_true, if_false, not_true_eq_false, not_false_eq_true, Bool.false_eq_true, Bool.true_eq_false, reduceIte, ite_true, ite_false]
      exact hl
    · simp only [h1, h2, gR_X0, gR_X1, gR_X2, gI_X3, gR_X4, gR_X5, gR_X6, cV_X, x_think, xmind_1, xmind_0, xmind_2, xnow_0, xnow_1, xnow_2, bk_some, bind_some', zb_0, zb_1, zb_or, cc_or, x_shelfAt w X hd, oc_some, S_cV w X hd, S_rowRefusal w X hd, ix7 hd, if_true, if_false, not_true_eq_false, not_false_eq_true, Bool.false_eq_true, Bool.true_eq_false, reduceIte, ite_true, ite_false]
  · have h1 := Bool.eq_false_iff.mpr h1
    simp only [h1, gR_X0, gR_X1, gR_X2, gI_X3, gR_X4, gR_X5, gR_X6, cV_X, x_think, xmind_1, xmind_0, xmind_2, xnow_0, xnow_1, xnow_2, bk_some, bind_some', zb_0, zb_1, zb_or, cc_or, x_shelfNo w X h1, oc_none, if_true, if_false, not_true_eq_false, not_false_eq_true, Bool.false_eq_true, Bool.true_eq_false, reduceIte, ite_true, ite_false]
theorem forgY (w : aW) {κ : aK} (hW : WF κ) {Y : aY} {σ : Nat → aS} (hC : Cp σ Y) {d N : Nat} (hd : d < 8) (hN : N ≤ 100) (h2 : (σ d).1 0 = 2) (he : (σ d).1 4 = nI N) : ∀ (m i n : Nat), i + m = N → m < n → loop2 (c_X4_forged_19 50 (nI d)) n (nI i) (putY w κ Y) = some (o4 (fndK (forgN (σ d) κ) i m), putY w κ Y)
  | 0, i, n + 1, hm, _ => by
    have : i = N := by omega
    subst this
    have hsz := ((hC d hd).2.2.2 h2).2.1
    show c_X4_forged_19 50 (nI d) (loop2 (c_X4_forged_19 50 (nI d)) n) (nI i) (putY w κ Y) = _
    simp only [c_X4_forged_19, gI_Y0, gR_Y1, gR_Y2, gR_Y3, gR_Y4, gR_Y5, gI_Y6, gR_Y7, gR_Y8, gR_Y9, gR_Y10, gI_Y11, gI_Y12, gR_Y13, gR_Y14, gR_Y15, gR_Y16, gR_Y17, gR_Y18, gI_Y19, gI_Y20, gI_Y21, gI_Y22, gI_Y23, gR_Y24, gR_Y25, gR_Y26, gR_Y27, gR_Y28, gI_Y29, gI_Y30, gI_Y31, gR_Y33, gR_Y34, gI_Y35, gR_Y36, cV_Y, bk_some, bind_some', zb_0, zb_1, zb_or, cc_or, kset_1, kset_21, kint_1, kint_21, kint_22, putY_moved, gA_Y64 w κ Y hd, hsz, he, Int32.le_refl, if_true, if_false, not_true_eq_false, not_false_eq_true, Bool.false_eq_true, Bool.true_eq_false, reduceIte, ite_true, ite_false]
    rfl
  | m + 1, i, n + 1, hm, hn => by
    show c_X4_forged_19 50 (nI d) (loop2 (c_X4_forged_19 50 (nI d)) n) (nI i) (putY w κ Y) = _
    rw [fnd_s]
    have hlt : ¬ nI N ≤ nI i := le_nIb (by omega) (by omega) (by omega)
    have hk9 := hW.1
    obtain ⟨hν, hY⟩ := hC d hd
    obtain ⟨hk, hsz, hel⟩ := hY.2.2 h2
    have ev := hel i (by omega)
    have hat := at_in hN he (show i < N by omega)
    by_cases h1 : i < κ.1
    · have hlm := lt_9I h1 hk9
      have ih := forgY w hW hC hd hN h2 he m (i + 1) n (by omega) (by omega)
      have hc : (if (0 : Int32) ≤ κ.2.2 4 i then κ.2.2 4 i else 5) = clrI κ i := by
        unfold clrI
        rcases (hW.2.1 i (by omega)).2.2.2.2 with h | ⟨p, hp, h⟩
        · rw [h, if_neg (by decide), if_pos rfl]
        · rw [h, if_pos (nI_pos' (by omega)), if_neg (nI_ne4 (by omega))]
      by_cases h3 : (σ d).2 i = clrI κ i
      · rw [if_neg (show ¬ forgN (σ d) κ i = true by unfold forgN; rw [hat, decide_eq_true h1, decide_eq_true h3]; decide), ← ih]
        rw [← hc] at h3
        by_cases h4 : (0 : Int32) ≤ κ.2.2 4 i
        · rw [if_pos h4] at h3
          simp only [c_X4_forged_19, gI_Y0, gR_Y1, gR_Y2, gR_Y3, gR_Y4, gR_Y5, gI_Y6, gR_Y7, gR_Y8, gR_Y9, gR_Y10, gI_Y11, gI_Y12, gR_Y13, gR_Y14, gR_Y15, gR_Y16, gR_Y17, gR_Y18, gI_Y19, gI_Y20, gI_Y21, gI_Y22, gI_Y23, gR_Y24, gR_Y25, gR_Y26, gR_Y27, gR_Y28, gI_Y29, gI_Y30, gI_Y31, gR_Y33, gR_Y34, gI_Y35, gR_Y36, cV_Y, bk_some, bind_some', zb_0, zb_1, zb_or, cc_or, kset_1, kset_21, kint_1, kint_21, kint_22, putY_moved, gA_Y64 w κ Y hd, hsz, he, hlt, hlm, h100 d hd, nI_add, gL_Y65 w κ Y (show 100 * d + i < 800 by omega), ev, gA_Y55 w Y hk9 h1, h4, cmp_eq, l64_eq, h3, nI_1, if_true, if_false, not_true_eq_false, not_false_eq_true, Bool.false_eq_true, Bool.true_eq_false, reduceIte, ite_true, ite_false]
        · rw [if_neg h4] at h3
          simp only [c_X4_forged_19, gI_Y0, gR_Y1, gR_Y2, gR_Y3, gR_Y4, gR_Y5, gI_Y6, gR_Y7, gR_Y8, gR_Y9, gR_Y10, gI_Y11, gI_Y12, gR_Y13, gR_Y14, gR_Y15, gR_Y16, gR_Y17, gR_Y18, gI_Y19, gI_Y20, gI_Y21, gI_Y22, gI_Y23, gR_Y24, gR_Y25, gR_Y26, gR_Y27, gR_Y28, gI_Y29, gI_Y30, gI_Y31, gR_Y33, gR_Y34, gI_Y35, gR_Y36, cV_Y, bk_some, bind_some', zb_0, zb_1, zb_or, cc_or, kset_1, kset_21, kint_1, kint_21, kint_22, putY_moved, gA_Y64 w κ Y hd, hsz, he, hlt, hlm, h100 d hd, nI_add, gL_Y65 w κ Y (show 100 * d + i < 800 by omega), ev, gA_Y55 w Y hk9 h1, h4, cmp_eq, l64_eq, h3, nI_1, if_true, if_false, not_true_eq_false, not_false_eq_true, Bool.false_eq_true, Bool.true_eq_false, reduceIte, ite_true, ite_false]
      · rw [if_pos (show forgN (σ d) κ i = true by unfold forgN; rw [hat, decide_eq_false h3, Bool.and_false]; rfl)]
        rw [← hc] at h3
        by_cases h4 : (0 : Int32) ≤ κ.2.2 4 i
        · rw [if_pos h4] at h3
          simp only [c_X4_forged_19, gI_Y0, gR_Y1, gR_Y2, gR_Y3, gR_Y4, gR_Y5, gI_Y6, gR_Y7, gR_Y8, gR_Y9, gR_Y10, gI_Y11, gI_Y12, gR_Y13, gR_Y14, gR_Y15, gR_Y16, gR_Y17, gR_Y18, gI_Y19, gI_Y20, gI_Y21, gI_Y22, gI_Y23, gR_Y24, gR_Y25, gR_Y26, gR_Y27, gR_Y28, gI_Y29, gI_Y30, gI_Y31, gR_Y33, gR_Y34, gI_Y35, gR_Y36, cV_Y, bk_some, bind_some', zb_0, zb_1, zb_or, cc_or, kset_1, kset_21, kint_1, kint_21, kint_22, putY_moved, gA_Y64 w κ Y hd, hsz, he, hlt, hlm, h100 d hd, nI_add, gL_Y65 w κ Y (show 100 * d + i < 800 by omega), ev, gA_Y55 w Y hk9 h1, h4, cmp_eq, l64_eq, h3, if_true, if_false, not_true_eq_false, not_false_eq_true, Bool.false_eq_true, Bool.true_eq_false, reduceIte, ite_true, ite_false]
          rfl
        · rw [if_neg h4] at h3
          simp only [c_X4_forged_19, gI_Y0, gR_Y1, gR_Y2, gR_Y3, gR_Y4, gR_Y5, gI_Y6, gR_Y7, gR_Y8, gR_Y9, gR_Y10, gI_Y11, gI_Y12, gR_Y13, gR_Y14, gR_Y15, gR_Y16, gR_Y17, gR_Y18, gI_Y19, gI_Y20, gI_Y21, gI_Y22, gI_Y23, gR_Y24, gR_Y25, gR_Y26, gR_Y27, gR_Y28, gI_Y29, gI_Y30, gI_Y31, gR_Y33, gR_Y34, gI_Y35, gR_Y36, cV_Y, bk_some, bind_some', zb_0, zb_1, zb_or, cc_or, kset_1, kset_21, kint_1, kint_21, kint_22, putY_moved, gA_Y64 w κ Y hd, hsz, he, hlt, hlm, h100 d hd, nI_add, gL_Y65 w κ Y (show 100 * d + i < 800 by omega), ev, gA_Y55 w Y hk9 h1, h4, cmp_eq, l64_eq, h3, if_true, if_false, not_true_eq_false, not_false_eq_true, Bool.false_eq_true, Bool.true_eq_false, reduceIte, ite_true, ite_false]
          rfl
    · have hlm : nI κ.1 ≤ nI i := (nI_leI (by omega) (by omega)).mpr (by omega)
      rw [if_pos (show forgN (σ d) κ i = true by unfold forgN; rw [decide_eq_false h1]; rfl)]
      simp only [c_X4_forged_19, gI_Y0, gR_Y1, gR_Y2, gR_Y3, gR_Y4, gR_Y5, gI_Y6, gR_Y7, gR_Y8, gR_Y9, gR_Y10, gI_Y11, gI_Y12, gR_Y13, gR_Y14, gR_Y15, gR_Y16, gR_Y17, gR_Y18, gI_Y19, gI_Y20, gI_Y21, gI_Y22, gI_Y23, gR_Y24, gR_Y25, gR_Y26, gR_Y27, gR_Y28, gI_Y29, gI_Y30, gI_Y31, gR_Y33, gR_Y34, gI_Y35, gR_Y36, cV_Y, bk_some, bind_some', zb_0, zb_1, zb_or, cc_or, kset_1, kset_21, kint_1, kint_21, kint_22, putY_moved, gA_Y64 w κ Y hd, hsz, he, hlt, hlm, if_true, if_false, not_true_eq_false, not_false_eq_true, Bool.false_eq_true, Bool.true_eq_false, reduceIte, ite_true, ite_false]
      rfl
theorem m_forged (w : aW) {Y : aY} {κ : aK} {σ : Nat → aS} (hC : Cp σ Y) (hW : WF κ) (x : Int32) : f_X4_forged 50 x (putY w κ Y) = some (forgedK x κ σ, putY w κ (yint Y 1 0)) := by
  have hC' := hC.thr 0
  have ew := m_wrongRow w κ hC' x
  unfold f_X4_forged forgedK
  by_cases h1 : inR x 0 7 = true
  · obtain ⟨d, hd, rfl⟩ := in7 h1
    have er : refR σ (nI d) = rowR (σ d) := by unfold refR; rw [if_pos h1, ix7 hd]
    rw [er] at ew
    by_cases h2 : rowR (σ d) = 0
    · have h20 := rowR_2 h2
      obtain ⟨N, hN, he⟩ := (hC' d hd).1.2.1
      have hl := forgY w hW hC' hd hN h20 he N 0 a_fuel (by omega) (show N < 1000 by omega)
      simp only [h1, h2, ew, sF_Y19, Int32.le_refl, gI_Y0, gR_Y1, gR_Y2, gR_Y3, gR_Y4, gR_Y5, gI_Y6, gR_Y7, gR_Y8, gR_Y9, gR_Y10, gI_Y11, gI_Y12, gR_Y13, gR_Y14, gR_Y15, gR_Y16, gR_Y17, gR_Y18, gI_Y19, gI_Y20, gI_Y21, gI_Y22, gI_Y23, gR_Y24, gR_Y25, gR_Y26, gR_Y27, gR_Y28, gI_Y29, gI_Y30, gI_Y31, gR_Y33, gR_Y34, gI_Y35, gR_Y36, cV_Y, bk_some, bind_some', zb_0, zb_1, zb_or, cc_or, kset_1, kset_21, kint_1, kint_21, kint_22, putY_moved, ix7 hd, sz_of hN he, if_true, if_false, not_true_eq_false, not_false_eq_true, Bool.false_eq_true, Bool.true_eq_false, reduceIte, ite_true, ite_false]
      exact hl
    · simp only [h1, h2, ew, sF_Y19, nle0 (rowR_neg h2), ix7 hd, gI_Y0, gR_Y1, gR_Y2, gR_Y3, gR_Y4, gR_Y5, gI_Y6, gR_Y7, gR_Y8, gR_Y9, gR_Y10, gI_Y11, gI_Y12, gR_Y13, gR_Y14, gR_Y15, gR_Y16, gR_Y17, gR_Y18, gI_Y19, gI_Y20, gI_Y21, gI_Y22, gI_Y23, gR_Y24, gR_Y25, gR_Y26, gR_Y27, gR_Y28, gI_Y29, gI_Y30, gI_Y31, gR_Y33, gR_Y34, gI_Y35, gR_Y36, cV_Y, bk_some, bind_some', zb_0, zb_1, zb_or, cc_or, kset_1, kset_21, kint_1, kint_21, kint_22, putY_moved, if_true, if_false, not_true_eq_false, not_false_eq_true, Bool.false_eq_true, Bool.true_eq_false, reduceIte, ite_true, ite_false]
  · have h1 := Bool.eq_false_iff.mpr h1
    have er : refR σ x = -1 := by unfold refR; rw [if_neg (by rw [h1]; decide)]
    rw [er] at ew
    simp only [h1, ew, sF_Y19, m1_nle, gI_Y0, gR_Y1, gR_Y2, gR_Y3, gR_Y4, gR_Y5, gI_Y6, gR_Y7, gR_Y8, gR_Y9, gR_Y10, gI_Y11, gI_Y12, gR_Y13, gR_Y14, gR_Y15, gR_Y16, gR_Y17, gR_Y18, gI_Y19, gI_Y20, gI_Y21, gI_Y22, gI_Y23, gR_Y24, gR_Y25, gR_Y26, gR_Y27, gR_Y28, gI_Y29, gI_Y30, gI_Y31, gR_Y33, gR_Y34, gI_Y35, gR_Y36, cV_Y, bk_some, bind_some', zb_0, zb_1, zb_or, cc_or, kset_1, kset_21, kint_1, kint_21, kint_22, putY_moved, if_true, if_false, not_true_eq_false, not_false_eq_true, Bool.false_eq_true, Bool.true_eq_false, reduceIte, ite_true, ite_false]
/-! count -/
def countK (k : Int32) (κ : aK) : Int32 := if k = 0 then nI κ.1 else if k = 1 then κ.2.1 0 else if k = 2 then κ.2.1 1 else if k = 3 then calledAnyK κ else if k = 4 then meansAllK κ else -1
theorem x_count (w : aW) (X : aX) (k : Int32) : f_X3_count 0 k (putX w X) = some (countK k X.1, putX w X) := by
  unfold f_X3_count countK
  simp only [gR_X0, gR_X1, gR_X2, gI_X3, gR_X4, gR_X5, gR_X6, cV_X, x_think, xmind_1, xmind_0, xmind_2, xnow_0, xnow_1, xnow_2, bk_some, bind_some', zb_0, zb_1, zb_or, cc_or, N_cV, N_gI0, N_gI1, N_gI2, N_gI3, N_gR4, N_gR5, N_gR6, N_gR7, N_gR8, N_gR9, N_gR10, N_gR11, N_gR12, N_hasBeast, N_isAlive, N_calledBy, N_calledByAnybody, N_needTogether, N_workTogether, N_freeOnes, N_meansOfAll]
  repeat' split
  all_goals rfl
theorem m_count (w : aW) (Y : aY) {κ : aK} (hW : WF κ) (k : Int32) : f_X4_count 50 k (putY w κ Y) = some (countK k κ, putY w κ (yint Y 1 0)) := by
  unfold f_X4_count countK
  simp only [sF_Y19, gI_Y0, gR_Y1, gR_Y2, gR_Y3, gR_Y4, gR_Y5, gI_Y6, gR_Y7, gR_Y8, gR_Y9, gR_Y10, gI_Y11, gI_Y12, gR_Y13, gR_Y14, gR_Y15, gR_Y16, gR_Y17, gR_Y18, gI_Y19, gI_Y20, gI_Y21, gI_Y22, gI_Y23, gR_Y24, gR_Y25, gR_Y26, gR_Y27, gR_Y28, gI_Y29, gI_Y30, gI_Y31, gR_Y33, gR_Y34, gI_Y35, gR_Y36, cV_Y, bk_some, bind_some', zb_0, zb_1, zb_or, cc_or, kset_1, kset_21, kint_1, kint_21, kint_22, putY_moved, m_calledAll w _ hW, m_allMeans]
  repeat' split
  all_goals rfl
