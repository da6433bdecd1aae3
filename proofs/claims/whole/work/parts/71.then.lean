/-! PURE: what-ifs: a beast and a person in days to come -/
def Yk (y y' : aY) : Prop := Yeq y y' ∧ y'.2.1 9 = y.2.1 9
theorem Yk.refl (y : aY) : Yk y y := ⟨Yeq.refl y, rfl⟩
theorem Yk.trans {a b c : aY} (h1 : Yk a b) (h2 : Yk b c) : Yk a c := ⟨h1.1.trans h2.1, h2.2.trans h1.2⟩
theorem Yk.thrown (y : aY) (x : Int32) : Yk y (yint y 1 x) := ⟨⟨rfl, rfl, fun _ _ => rfl, rfl⟩, rfl⟩
theorem k_think (w : aW) {κ : aK} (y : aY) (hk : κ.1 ≤ 9) : ∃ y', Yk y y' ∧ Kept y' 8 κ ∧ f_X4_think 50 (putY w κ y) = some ((), putY w κ y') := by
  obtain ⟨y', h1, h2, h3, h4⟩ := m_think w y hk
  exact ⟨y', ⟨h1, h3 9 (by decide) (by decide) (by decide)⟩, h2, h4⟩
theorem k_again (w : aW) (κ : aK) (y : aY) {κ0 : aK} (hk : κ0.1 ≤ 9) (hK : Kept y 8 κ0) : ∃ y', Yk y y' ∧ Kept y' 8 κ0 ∧ f_X4_again 50 (putY w κ y) = some ((), putY w κ0 y') := by
  obtain ⟨y', h1, h2, h3, h4⟩ := m_again w κ y hk hK
  exact ⟨y', ⟨h1, h2 9 (by decide) (by decide)⟩, h3, h4⟩
theorem days_1 (n : Nat) (κ : aK) : (daysK n κ).1 = κ.1 := itr_1 (fun _ κ => pass_1 0 κ) n 0 κ
theorem in60' {x : Int32} (h : inR x 0 60 = true) : ∃ n, n ≤ 60 ∧ x = nI n := inR_nI (n := 60) (by decide) h
theorem in2 {x : Int32} (h : inR x 0 2 = true) : ∃ n, n ≤ 2 ∧ x = nI n := inR_nI (n := 2) (by decide) h
def toldB (κ : aK) (b k : Nat) : Int32 := if k < 5 then κ.2.2 k b else if k = 5 then zb (bitB (κ.2.1 1) (nI b)) else if k = 6 then needK κ b else if k = 7 then workK κ b else if bitB (κ.2.1 1) (nI b) = true then wantsK κ b (κ.2.1 0 + 1) else -4
theorem p_toldOfBeast {w : aW} {j : Nat} (hj : j + 9 < 75) {κ : aK} (hW : WF κ) {b k : Nat} (hb : b < 9) (hk : k ≤ 8) : f_X0_toldOfBeast j (nI b) (nI k) (putM w j κ) = some (toldB κ b k, putM w j κ) := by
  rcases (show k = 0 ∨ k = 1 ∨ k = 2 ∨ k = 3 ∨ k = 4 ∨ k = 5 ∨ k = 6 ∨ k = 7 ∨ k = 8 by omega) with rfl | rfl | rfl | rfl | rfl | rfl | rfl | rfl | rfl
  · show f_X0_toldOfBeast j (nI b) 0 (putM w j κ) = some (κ.2.2 0 b, putM w j κ)
    unfold f_X0_toldOfBeast
    simp (decide := true) only [gI_M0 hj, gI_M1 hj, gI_M2 hj, gI_M3 hj, gR_M4 hj, gR_M5 hj, gR_M6 hj, gR_M7 hj, gR_M8 hj, gR_M9 hj, gR_M10 hj, gR_M11 hj, gR_M12 hj, cV_M hj, bk_some, bind_some', zb_0, zb_1, zb_or, cc_or, kset_1, kset_21, kint_1, kint_21, kint_22, gA_M0 hj κ hb, if_true, if_false, not_true_eq_false, not_false_eq_true, Bool.false_eq_true, Bool.true_eq_false, reduceIte, ite_true, ite_false]
  · show f_X0_toldOfBeast j (nI b) 1 (putM w j κ) = some (κ.2.2 1 b, putM w j κ)
    unfold f_X0_toldOfBeast
    simp (decide := true) only [gI_M0 hj, gI_M1 hj, gI_M2 hj, gI_M3 hj, gR_M4 hj, gR_M5 hj, gR_M6 hj, gR_M7 hj, gR_M8 hj, gR_M9 hj, gR_M10 hj, gR_M11 hj, gR_M12 hj, cV_M hj, bk_some, bind_some', zb_0, zb_1, zb_or, cc_or, kset_1, kset_21, kint_1, kint_21, kint_22, gA_M1 hj κ hb, if_true, if_false, not_true_eq_false, not_false_eq_true, Bool.false_eq_true, Bool.true_eq_false, reduceIte, ite_true, ite_false]
  · show f_X0_toldOfBeast j (nI b) 2 (putM w j κ) = some (κ.2.2 2 b, putM w j κ)
    unfold f_X0_toldOfBeast
    simp (decide := true) only [gI_M0 hj, gI_M1 hj, gI_M2 hj, gI_M3 hj, gR_M4 hj, gR_M5 hj, gR_M6 hj, gR_M7 hj, gR_M8 hj, gR_M9 hj, gR_M10 hj, gR_M11 hj, gR_M12 hj, cV_M hj, bk_some, bind_some', zb_0, zb_1, zb_or, cc_or, kset_1, kset_21, kint_1, kint_21, kint_22, gA_M2 hj κ hb, if_true, if_false, not_true_eq_false, not_false_eq_true, Bool.false_eq_true, Bool.true_eq_false, reduceIte, ite_true, ite_false]
  · show f_X0_toldOfBeast j (nI b) 3 (putM w j κ) = some (κ.2.2 3 b, putM w j κ)
    unfold f_X0_toldOfBeast
    simp (decide := true) only [gI_M0 hj, gI_M1 hj, gI_M2 hj, gI_M3 hj, gR_M4 hj, gR_M5 hj, gR_M6 hj, gR_M7 hj, gR_M8 hj, gR_M9 hj, gR_M10 hj, gR_M11 hj, gR_M12 hj, cV_M hj, bk_some, bind_some', zb_0, zb_1, zb_or, cc_or, kset_1, kset_21, kint_1, kint_21, kint_22, gA_M3 hj κ hb, if_true, if_false, not_true_eq_false, not_false_eq_true, Bool.false_eq_true, Bool.true_eq_false, reduceIte, ite_true, ite_false]
  · show f_X0_toldOfBeast j (nI b) 4 (putM w j κ) = some (κ.2.2 4 b, putM w j κ)
    unfold f_X0_toldOfBeast
    simp (decide := true) only [gI_M0 hj, gI_M1 hj, gI_M2 hj, gI_M3 hj, gR_M4 hj, gR_M5 hj, gR_M6 hj, gR_M7 hj, gR_M8 hj, gR_M9 hj, gR_M10 hj, gR_M11 hj, gR_M12 hj, cV_M hj, bk_some, bind_some', zb_0, zb_1, zb_or, cc_or, kset_1, kset_21, kint_1, kint_21, kint_22, gA_M4 hj κ hb, if_true, if_false, not_true_eq_false, not_false_eq_true, Bool.false_eq_true, Bool.true_eq_false, reduceIte, ite_true, ite_false]
  · show f_X0_toldOfBeast j (nI b) 5 (putM w j κ) = some (zb (bitB (κ.2.1 1) (nI b)), putM w j κ)
    unfold f_X0_toldOfBeast
    simp (decide := true) only [gI_M0 hj, gI_M1 hj, gI_M2 hj, gI_M3 hj, gR_M4 hj, gR_M5 hj, gR_M6 hj, gR_M7 hj, gR_M8 hj, gR_M9 hj, gR_M10 hj, gR_M11 hj, gR_M12 hj, cV_M hj, bk_some, bind_some', zb_0, zb_1, zb_or, cc_or, kset_1, kset_21, kint_1, kint_21, kint_22, p_isAlive hj, if_true, if_false, not_true_eq_false, not_false_eq_true, Bool.false_eq_true, Bool.true_eq_false, reduceIte, ite_true, ite_false]
    cases bitB (κ.2.1 1) (nI b) <;> rfl
  · show f_X0_toldOfBeast j (nI b) 6 (putM w j κ) = some (needK κ b, putM w j κ)
    unfold f_X0_toldOfBeast
    simp (decide := true) only [gI_M0 hj, gI_M1 hj, gI_M2 hj, gI_M3 hj, gR_M4 hj, gR_M5 hj, gR_M6 hj, gR_M7 hj, gR_M8 hj, gR_M9 hj, gR_M10 hj, gR_M11 hj, gR_M12 hj, cV_M hj, bk_some, bind_some', zb_0, zb_1, zb_or, cc_or, kset_1, kset_21, kint_1, kint_21, kint_22, gA_M0 hj κ hb, gA_M1 hj κ hb, p_needOf, if_true, if_false, not_true_eq_false, not_false_eq_true, Bool.false_eq_true, Bool.true_eq_false, reduceIte, ite_true, ite_false]
    rfl
  · show f_X0_toldOfBeast j (nI b) 7 (putM w j κ) = some (workK κ b, putM w j κ)
    unfold f_X0_toldOfBeast
    simp (decide := true) only [gI_M0 hj, gI_M1 hj, gI_M2 hj, gI_M3 hj, gR_M4 hj, gR_M5 hj, gR_M6 hj, gR_M7 hj, gR_M8 hj, gR_M9 hj, gR_M10 hj, gR_M11 hj, gR_M12 hj, cV_M hj, bk_some, bind_some', zb_0, zb_1, zb_or, cc_or, kset_1, kset_21, kint_1, kint_21, kint_22, gA_M0 hj κ hb, gA_M1 hj κ hb, p_workOf, if_true, if_false, not_true_eq_false, not_false_eq_true, Bool.false_eq_true, Bool.true_eq_false, reduceIte, ite_true, ite_false]
    rfl
  · show f_X0_toldOfBeast j (nI b) 8 (putM w j κ) = some (if bitB (κ.2.1 1) (nI b) = true then wantsK κ b (κ.2.1 0 + 1) else -4, putM w j κ)
    unfold f_X0_toldOfBeast
    simp (decide := true) only [gI_M0 hj, gI_M1 hj, gI_M2 hj, gI_M3 hj, gR_M4 hj, gR_M5 hj, gR_M6 hj, gR_M7 hj, gR_M8 hj, gR_M9 hj, gR_M10 hj, gR_M11 hj, gR_M12 hj, cV_M hj, bk_some, bind_some', zb_0, zb_1, zb_or, cc_or, kset_1, kset_21, kint_1, kint_21, kint_22, p_wantedPlace hj hW hb, if_true, if_false, not_true_eq_false, not_false_eq_true, Bool.false_eq_true, Bool.true_eq_false, reduceIte, ite_true, ite_false]
theorem T_told (w : aW) {X : aX} (hW : WF X.2.1) {b k : Nat} (hb : b < 9) (hk : k ≤ 8) : f_X0_toldOfBeast 11 (nI b) (nI k) (putX w X) = some (toldB X.2.1 b k, putX w X) := by
  rw [X_mind w X]; exact p_toldOfBeast d20 hW hb hk
theorem N_told (w : aW) {X : aX} (hW : WF X.1) {b k : Nat} (hb : b < 9) (hk : k ≤ 8) : f_X0_toldOfBeast 1 (nI b) (nI k) (putX w X) = some (toldB X.1 b k, putX w X) := by
  rw [X_now w X]; exact p_toldOfBeast d10 hW hb hk
def bThenK (x n k : Int32) (κ : aK) : Int32 := if inR x 0 (nI κ.1 - 1) = true then (if inR n 0 60 = true then (if inR k 0 2 = true then toldB (daysK (ix n) κ) (ix x) (ix k + 2) else -1) else -1) else -1
theorem nI_2 (k : Nat) : nI k + 2 = nI (k + 2) := nI_add k 2
theorem x_beastThen (w : aW) {X : aX} (hW : WF X.1) (x n k : Int32) : ∃ μ, f_X3_beastThen 0 x n k (putX w X) = some (bThenK x n k X.1, putX w (xmind X μ)) := by
  unfold f_X3_beastThen bThenK
  by_cases h1 : inR x 0 (nI X.1.1 - 1) = true
  · by_cases h2 : inR n 0 60 = true
    · by_cases h3 : inR k 0 2 = true
      · obtain ⟨b, hb, hx⟩ := inB hW.1 h1
        obtain ⟨m, hm, hn⟩ := in60' h2
        obtain ⟨q, hq, hk⟩ := in2 h3
        subst hx hn hk
        have hb9 : b < 9 := by have := hW.1; omega
        have hWd := days_WF hW m
        refine ⟨daysK m X.1, ?_⟩
        simp only [h1, h2, h3, gR_X0, gR_X1, gR_X2, gI_X3, gR_X4, gR_X5, gR_X6, cV_X, x_think, xmind_1, xmind_0, xmind_2, xnow_0, xnow_1, xnow_2, bk_some, bind_some', zb_0, zb_1, zb_or, cc_or, N_cV, N_gI0, N_gI1, N_gI2, N_gI3, N_gR4, N_gR5, N_gR6, N_gR7, N_gR8, N_gR9, N_gR10, N_gR11, N_gR12, N_hasBeast, N_isAlive, N_calledBy, N_calledByAnybody, N_needTogether, N_workTogether, N_freeOnes, T_cV, p_within, T_passDays w (X := xmind X X.1) hW (show m < 1000 by omega), nI_2, T_told w (X := xmind X (daysK m X.1)) hWd hb9 (show q + 2 ≤ 8 by omega), ix_nI (show b < 2 ^ 31 by omega), ix_nI (show m < 2 ^ 31 by omega), ix_nI (show q < 2 ^ 31 by omega), if_true, if_false, not_true_eq_false, not_false_eq_true, Bool.false_eq_true, Bool.true_eq_false, reduceIte, ite_true, ite_false]
      · have h3 := Bool.eq_false_iff.mpr h3
        exact ⟨X.2.1, by simp only [h1, h2, h3, gR_X0, gR_X1, gR_X2, gI_X3, gR_X4, gR_X5, gR_X6, cV_X, x_think, xmind_1, xmind_0, xmind_2, xnow_0, xnow_1, xnow_2, bk_some, bind_some', zb_0, zb_1, zb_or, cc_or, N_cV, N_gI0, N_gI1, N_gI2, N_gI3, N_gR4, N_gR5, N_gR6, N_gR7, N_gR8, N_gR9, N_gR10, N_gR11, N_gR12, N_hasBeast, N_isAlive, N_calledBy, N_calledByAnybody, N_needTogether, N_workTogether, N_freeOnes, p_within, if_true, if_false, not_true_eq_false, not_false_eq_true, Bool.false_eq_true, Bool.true_eq_false, reduceIte, ite_true, ite_false]; rfl⟩
    · have h2 := Bool.eq_false_iff.mpr h2
      exact ⟨X.2.1, by simp only [h1, h2, gR_X0, gR_X1, gR_X2, gI_X3, gR_X4, gR_X5, gR_X6, cV_X, x_think, xmind_1, xmind_0, xmind_2, xnow_0, xnow_1, xnow_2, bk_some, bind_some', zb_0, zb_1, zb_or, cc_or, N_cV, N_gI0, N_gI1, N_gI2, N_gI3, N_gR4, N_gR5, N_gR6, N_gR7, N_gR8, N_gR9, N_gR10, N_gR11, N_gR12, N_hasBeast, N_isAlive, N_calledBy, N_calledByAnybody, N_needTogether, N_workTogether, N_freeOnes, p_within, if_true, if_false, not_true_eq_false, not_false_eq_true, Bool.false_eq_true, Bool.true_eq_false, reduceIte, ite_true, ite_false]; rfl⟩
  · have h1 := Bool.eq_false_iff.mpr h1
    exact ⟨X.2.1, by simp only [h1, gR_X0, gR_X1, gR_X2, gI_X3, gR_X4, gR_X5, gR_X6, cV_X, x_think, xmind_1, xmind_0, xmind_2, xnow_0, xnow_1, xnow_2, bk_some, bind_some', zb_0, zb_1, zb_or, cc_or, N_cV, N_gI0, N_gI1, N_gI2, N_gI3, N_gR4, N_gR5, N_gR6, N_gR7, N_gR8, N_gR9, N_gR10, N_gR11, N_gR12, N_hasBeast, N_isAlive, N_calledBy, N_calledByAnybody, N_needTogether, N_workTogether, N_freeOnes, p_within, if_true, if_false, not_true_eq_false, not_false_eq_true, Bool.false_eq_true, Bool.true_eq_false, reduceIte, ite_true, ite_false]; rfl⟩
theorem m_beastThen (w : aW) (Y : aY) {κ : aK} (hW : WF κ) (hs : Y.1 0 = 0) (x n k : Int32) : ∃ Y', Yk Y Y' ∧ f_X4_beastThen 50 x n k (putY w κ Y) = some (bThenK x n k κ, putY w κ Y') := by
  have hk9 := hW.1
  unfold f_X4_beastThen bThenK
  by_cases h1 : inR x 0 (nI κ.1 - 1) = true
  · by_cases h2 : inR n 0 60 = true
    · by_cases h3 : inR k 0 2 = true
      · obtain ⟨b, hb, hx⟩ := inB hW.1 h1
        obtain ⟨m, hm, hn⟩ := in60' h2
        obtain ⟨q, hq, hk⟩ := in2 h3
        subst hx hn hk
        have hWd := days_WF hW m
        have hbd : b < (daysK m κ).1 := by rw [days_1]; exact hb
        obtain ⟨Y1, e1, hK, ht⟩ := k_think w (yint Y 1 0) hk9
        have hs1 : Y1.1 0 = 0 := e1.1.1.trans hs
        obtain ⟨Y2, e2, -, ha⟩ := k_again w (daysK m κ) Y1 hk9 hK
        refine ⟨Y2, ((Yk.thrown Y 0).trans e1).trans e2, ?_⟩
        have hq3 : q = 0 ∨ q = 1 ∨ q = 2 := by omega
        rcases hq3 with rfl | rfl | rfl
        · simp (decide := true) only [p_in32 (x := nI m) (a := 0) (b := 60) (a' := 0) (b' := 60) rfl rfl, p_in32 (x := nI 0) (a := 0) (b := 2) (a' := 0) (b' := 2) rfl rfl, h1, h2, h3, m_isBeast, sF_Y19, gI_Y0, gR_Y1, gR_Y2, gR_Y3, gR_Y4, gR_Y5, gI_Y6, gR_Y7, gR_Y8, gR_Y9, gR_Y10, gI_Y11, gI_Y12, gR_Y13, gR_Y14, gR_Y15, gR_Y16, gR_Y17, gR_Y18, gI_Y19, gI_Y20, gI_Y21, gI_Y22, gI_Y23, gR_Y24, gR_Y25, gR_Y26, gR_Y27, gR_Y28, gI_Y29, gI_Y30, gI_Y31, gR_Y33, gR_Y34, gI_Y35, gR_Y36, cV_Y, bk_some, bind_some', zb_0, zb_1, zb_or, cc_or, kset_1, kset_21, kint_1, kint_21, kint_22, putY_moved, ht, m_goDays w Y1 hW hs1 (show m < 1000 by omega), gA_Y53 w _ hWd.1 hbd, ha, ix_nI (show b < 2 ^ 31 by omega), ix_nI (show m < 2 ^ 31 by omega), if_true, if_false, not_true_eq_false, not_false_eq_true, Bool.false_eq_true, Bool.true_eq_false, reduceIte, ite_true, ite_false]
          rfl
        · simp (decide := true) only [p_in32 (x := nI m) (a := 0) (b := 60) (a' := 0) (b' := 60) rfl rfl, p_in32 (x := nI 1) (a := 0) (b := 2) (a' := 0) (b' := 2) rfl rfl, h1, h2, h3, m_isBeast, sF_Y19, gI_Y0, gR_Y1, gR_Y2, gR_Y3, gR_Y4, gR_Y5, gI_Y6, gR_Y7, gR_Y8, gR_Y9, gR_Y10, gI_Y11, gI_Y12, gR_Y13, gR_Y14, gR_Y15, gR_Y16, gR_Y17, gR_Y18, gI_Y19, gI_Y20, gI_Y21, gI_Y22, gI_Y23, gR_Y24, gR_Y25, gR_Y26, gR_Y27, gR_Y28, gI_Y29, gI_Y30, gI_Y31, gR_Y33, gR_Y34, gI_Y35, gR_Y36, cV_Y, bk_some, bind_some', zb_0, zb_1, zb_or, cc_or, kset_1, kset_21, kint_1, kint_21, kint_22, putY_moved, ht, m_goDays w Y1 hW hs1 (show m < 1000 by omega), gA_Y54 w _ hWd.1 hbd, ha, ix_nI (show b < 2 ^ 31 by omega), ix_nI (show m < 2 ^ 31 by omega), if_true, if_false, not_true_eq_false, not_false_eq_true, Bool.false_eq_true, Bool.true_eq_false, reduceIte, ite_true, ite_false]
          rfl
        · simp (decide := true) only [p_in32 (x := nI m) (a := 0) (b := 60) (a' := 0) (b' := 60) rfl rfl, p_in32 (x := nI 2) (a := 0) (b := 2) (a' := 0) (b' := 2) rfl rfl, h1, h2, h3, m_isBeast, sF_Y19, gI_Y0, gR_Y1, gR_Y2, gR_Y3, gR_Y4, gR_Y5, gI_Y6, gR_Y7, gR_Y8, gR_Y9, gR_Y10, gI_Y11, gI_Y12, gR_Y13, gR_Y14, gR_Y15, gR_Y16, gR_Y17, gR_Y18, gI_Y19, gI_Y20, gI_Y21, gI_Y22, gI_Y23, gR_Y24, gR_Y25, gR_Y26, gR_Y27, gR_Y28, gI_Y29, gI_Y30, gI_Y31, gR_Y33, gR_Y34, gI_Y35, gR_Y36, cV_Y, bk_some, bind_some', zb_0, zb_1, zb_or, cc_or, kset_1, kset_21, kint_1, kint_21, kint_22, putY_moved, ht, m_goDays w Y1 hW hs1 (show m < 1000 by omega), gA_Y55 w _ hWd.1 hbd, ha, ix_nI (show b < 2 ^ 31 by omega), ix_nI (show m < 2 ^ 31 by omega), if_true, if_false, not_true_eq_false, not_false_eq_true, Bool.false_eq_true, Bool.true_eq_false, reduceIte, ite_true, ite_false]
          rfl
      · have h3 := Bool.eq_false_iff.mpr h3
        refine ⟨yint Y 1 0, Yk.thrown Y 0, ?_⟩
        simp only [p_in32 (x := n) (a := 0) (b := 60) (a' := 0) (b' := 60) rfl rfl, p_in32 (x := k) (a := 0) (b := 2) (a' := 0) (b' := 2) rfl rfl, h1, h2, h3, m_isBeast, sF_Y19, gI_Y0, gR_Y1, gR_Y2, gR_Y3, gR_Y4, gR_Y5, gI_Y6, gR_Y7, gR_Y8, gR_Y9, gR_Y10, gI_Y11, gI_Y12, gR_Y13, gR_Y14, gR_Y15, gR_Y16, gR_Y17, gR_Y18, gI_Y19, gI_Y20, gI_Y21, gI_Y22, gI_Y23, gR_Y24, gR_Y25, gR_Y26, gR_Y27, gR_Y28, gI_Y29, gI_Y30, gI_Y31, gR_Y33, gR_Y34, gI_Y35, gR_Y36, cV_Y, bk_some, bind_some', zb_0, zb_1, zb_or, cc_or, kset_1, kset_21, kint_1, kint_21, kint_22, putY_moved, if_true, if_false, not_true_eq_false, not_false_eq_true, Bool.false_eq_true, Bool.true_eq_false, reduceIte, ite_true, ite_false]
    · have h2 := Bool.eq_false_iff.mpr h2
      refine ⟨yint Y 1 0, Yk.thrown Y 0, ?_⟩
      simp only [p_in32 (x := n) (a := 0) (b := 60) (a' := 0) (b' := 60) rfl rfl, h1, h2, m_isBeast, sF_Y19, gI_Y0, gR_Y1, gR_Y2, gR_Y3, gR_Y4, gR_Y5, gI_Y6, gR_Y7, gR_Y8, gR_Y9, gR_Y10, gI_Y11, gI_Y12, gR_Y13, gR_Y14, gR_Y15, gR_Y16, gR_Y17, gR_Y18, gI_Y19, gI_Y20, gI_Y21, gI_Y22, gI_Y23, gR_Y24, gR_Y25, gR_Y26, gR_Y27, gR_Y28, gI_Y29, gI_Y30, gI_Y31, gR_Y33, gR_Y34, gI_Y35, gR_Y36, cV_Y, bk_some, bind_some', zb_0, zb_1, zb_or, cc_or, kset_1, kset_21, kint_1, kint_21, kint_22, putY_moved, if_true, if_false, not_true_eq_false, not_false_eq_true, Bool.false_eq_true, Bool.true_eq_false, reduceIte, ite_true, ite_false]
  · have h1 := Bool.eq_false_iff.mpr h1
    refine ⟨yint Y 1 0, Yk.thrown Y 0, ?_⟩
    simp only [h1, m_isBeast, sF_Y19, gI_Y0, gR_Y1, gR_Y2, gR_Y3, gR_Y4, gR_Y5, gI_Y6, gR_Y7, gR_Y8, gR_Y9, gR_Y10, gI_Y11, gI_Y12, gR_Y13, gR_Y14, gR_Y15, gR_Y16, gR_Y17, gR_Y18, gI_Y19, gI_Y20, gI_Y21, gI_Y22, gI_Y23, gR_Y24, gR_Y25, gR_Y26, gR_Y27, gR_Y28, gI_Y29, gI_Y30, gI_Y31, gR_Y33, gR_Y34, gI_Y35, gR_Y36, cV_Y, bk_some, bind_some', zb_0, zb_1, zb_or, cc_or, kset_1, kset_21, kint_1, kint_21, kint_22, putY_moved, if_true, if_false, not_true_eq_false, not_false_eq_true, Bool.false_eq_true, Bool.true_eq_false, reduceIte, ite_true, ite_false]
