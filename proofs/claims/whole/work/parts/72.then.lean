/-! PURE: what-ifs: days until something is so -/
def pThenK (x n k : Int32) (κ : aK) : Int32 := if inR x 0 4 = true then (if inR n 0 60 = true then (if inR k 0 2 = true then (if ix k = 0 then (daysK (ix n) κ).2.2 5 (ix x) else if ix k = 1 then (daysK (ix n) κ).2.2 8 (ix x) else calledK (daysK (ix n) κ) x) else -1) else -1) else -1
theorem x_personThen (w : aW) {X : aX} (hW : WF X.1) (x n k : Int32) : ∃ μ, f_X3_personThen 0 x n k (putX w X) = some (pThenK x n k X.1, putX w (xmind X μ)) := by
  unfold f_X3_personThen pThenK
  by_cases h1 : inR x 0 4 = true
  · by_cases h2 : inR n 0 60 = true
    · by_cases h3 : inR k 0 2 = true
      · obtain ⟨p, hp, hx⟩ := inP h1
        obtain ⟨m, hm, hn⟩ := in60' h2
        obtain ⟨q, hq, hk⟩ := in2 h3
        subst hx hn hk
        refine ⟨daysK m X.1, ?_⟩
        have hq3 : q = 0 ∨ q = 1 ∨ q = 2 := by omega
        rcases hq3 with rfl | rfl | rfl
        · simp (decide := true) only [h1, h2, h3, gR_X0, gR_X1, gR_X2, gI_X3, gR_X4, gR_X5, gR_X6, cV_X, x_think, xmind_1, xmind_0, xmind_2, xnow_0, xnow_1, xnow_2, bk_some, bind_some', zb_0, zb_1, zb_or, cc_or, T_cV, T_gI0, T_gI1, T_gI2, T_gI3, T_gR4, T_gR5, T_gR6, T_gR7, T_gR8, T_gR9, T_gR10, T_gR11, T_gR12, T_hasBeast, T_isAlive, T_calledBy, T_calledByAnybody, T_needTogether, T_workTogether, T_freeOnes, p_isPerson, p_within, T_passDays w (X := xmind X X.1) hW (show m < 1000 by omega), T_gA5 w _ hp, ix_nI (show p < 2 ^ 31 by omega), ix_nI (show m < 2 ^ 31 by omega), if_true, if_false, not_true_eq_false, not_false_eq_true, Bool.false_eq_true, Bool.true_eq_false, reduceIte, ite_true, ite_false]
        · simp (decide := true) only [h1, h2, h3, gR_X0, gR_X1, gR_X2, gI_X3, gR_X4, gR_X5, gR_X6, cV_X, x_think, xmind_1, xmind_0, xmind_2, xnow_0, xnow_1, xnow_2, bk_some, bind_some', zb_0, zb_1, zb_or, cc_or, T_cV, T_gI0, T_gI1, T_gI2, T_gI3, T_gR4, T_gR5, T_gR6, T_gR7, T_gR8, T_gR9, T_gR10, T_gR11, T_gR12, T_hasBeast, T_isAlive, T_calledBy, T_calledByAnybody, T_needTogether, T_workTogether, T_freeOnes, p_isPerson, p_within, T_passDays w (X := xmind X X.1) hW (show m < 1000 by omega), T_gA8 w _ hp, ix_nI (show p < 2 ^ 31 by omega), ix_nI (show m < 2 ^ 31 by omega), if_true, if_false, not_true_eq_false, not_false_eq_true, Bool.false_eq_true, Bool.true_eq_false, reduceIte, ite_true, ite_false]
        · simp (decide := true) only [h1, h2, h3, gR_X0, gR_X1, gR_X2, gI_X3, gR_X4, gR_X5, gR_X6, cV_X, x_think, xmind_1, xmind_0, xmind_2, xnow_0, xnow_1, xnow_2, bk_some, bind_some', zb_0, zb_1, zb_or, cc_or, T_cV, T_gI0, T_gI1, T_gI2, T_gI3, T_gR4, T_gR5, T_gR6, T_gR7, T_gR8, T_gR9, T_gR10, T_gR11, T_gR12, T_hasBeast, T_isAlive, T_calledBy, T_calledByAnybody, T_needTogether, T_workTogether, T_freeOnes, p_isPerson, p_within, T_passDays w (X := xmind X X.1) hW (show m < 1000 by omega), ix_nI (show p < 2 ^ 31 by omega), ix_nI (show m < 2 ^ 31 by omega), if_true, if_false, not_true_eq_false, not_false_eq_true, Bool.false_eq_true, Bool.true_eq_false, reduceIte, ite_true, ite_false]
      · have h3 := Bool.eq_false_iff.mpr h3
        exact ⟨X.2.1, by simp only [h1, h2, h3, gR_X0, gR_X1, gR_X2, gI_X3, gR_X4, gR_X5, gR_X6, cV_X, x_think, xmind_1, xmind_0, xmind_2, xnow_0, xnow_1, xnow_2, bk_some, bind_some', zb_0, zb_1, zb_or, cc_or, p_isPerson, p_within, if_true, if_false, not_true_eq_false, not_false_eq_true, Bool.false_eq_true, Bool.true_eq_false, reduceIte, ite_true, ite_false]; rfl⟩
    · have h2 := Bool.eq_false_iff.mpr h2
      exact ⟨X.2.1, by simp only [h1, h2, gR_X0, gR_X1, gR_X2, gI_X3, gR_X4, gR_X5, gR_X6, cV_X, x_think, xmind_1, xmind_0, xmind_2, xnow_0, xnow_1, xnow_2, bk_some, bind_some', zb_0, zb_1, zb_or, cc_or, p_isPerson, p_within, if_true, if_false, not_true_eq_false, not_false_eq_true, Bool.false_eq_true, Bool.true_eq_false, reduceIte, ite_true, ite_false]; rfl⟩
  · have h1 := Bool.eq_false_iff.mpr h1
    exact ⟨X.2.1, by simp only [h1, gR_X0, gR_X1, gR_X2, gI_X3, gR_X4, gR_X5, gR_X6, cV_X, x_think, xmind_1, xmind_0, xmind_2, xnow_0, xnow_1, xnow_2, bk_some, bind_some', zb_0, zb_1, zb_or, cc_or, p_isPerson, p_within, if_true, if_false, not_true_eq_false, not_false_eq_true, Bool.false_eq_true, Bool.true_eq_false, reduceIte, ite_true, ite_false]; rfl⟩
theorem m_personThen (w : aW) (Y : aY) {κ : aK} (hW : WF κ) (hs : Y.1 0 = 0) (x n k : Int32) : ∃ Y', Yk Y Y' ∧ f_X4_personThen 50 x n k (putY w κ Y) = some (pThenK x n k κ, putY w κ Y') := by
  have hk9 := hW.1
  unfold f_X4_personThen pThenK
  by_cases h1 : inR x 0 4 = true
  · by_cases h2 : inR n 0 60 = true
    · by_cases h3 : inR k 0 2 = true
      · obtain ⟨p, hp, hx⟩ := inP h1
        obtain ⟨m, hm, hn⟩ := in60' h2
        obtain ⟨q, hq, hk⟩ := in2 h3
        subst hx hn hk
        have hWd := days_WF hW m
        obtain ⟨Y1, e1, hK, ht⟩ := k_think w (yint Y 1 0) hk9
        have hs1 : Y1.1 0 = 0 := e1.1.1.trans hs
        obtain ⟨Y2, e2, -, ha⟩ := k_again w (daysK m κ) Y1 hk9 hK
        refine ⟨Y2, ((Yk.thrown Y 0).trans e1).trans e2, ?_⟩
        have hq3 : q = 0 ∨ q = 1 ∨ q = 2 := by omega
        rcases hq3 with rfl | rfl | rfl
        · simp (decide := true) only [p_in32 (x := nI m) (a := 0) (b := 60) (a' := 0) (b' := 60) rfl rfl, p_in32 (x := nI 0) (a := 0) (b := 2) (a' := 0) (b' := 2) rfl rfl, h1, h2, h3, m_isPerson, sF_Y19, gI_Y0, gR_Y1, gR_Y2, gR_Y3, gR_Y4, gR_Y5, gI_Y6, gR_Y7, gR_Y8, gR_Y9, gR_Y10, gI_Y11, gI_Y12, gR_Y13, gR_Y14, gR_Y15, gR_Y16, gR_Y17, gR_Y18, gI_Y19, gI_Y20, gI_Y21, gI_Y22, gI_Y23, gR_Y24, gR_Y25, gR_Y26, gR_Y27, gR_Y28, gI_Y29, gI_Y30, gI_Y31, gR_Y33, gR_Y34, gI_Y35, gR_Y36, cV_Y, bk_some, bind_some', zb_0, zb_1, zb_or, cc_or, kset_1, kset_21, kint_1, kint_21, kint_22, putY_moved, ht, m_goDays w Y1 hW hs1 (show m < 1000 by omega), gA_Y56 w _ _ hp, ha, ix_nI (show p < 2 ^ 31 by omega), ix_nI (show m < 2 ^ 31 by omega), if_true, if_false, not_true_eq_false, not_false_eq_true, Bool.false_eq_true, Bool.true_eq_false, reduceIte, ite_true, ite_false]
        · simp (decide := true) only [p_in32 (x := nI m) (a := 0) (b := 60) (a' := 0) (b' := 60) rfl rfl, p_in32 (x := nI 1) (a := 0) (b := 2) (a' := 0) (b' := 2) rfl rfl, h1, h2, h3, m_isPerson, sF_Y19, gI_Y0, gR_Y1, gR_Y2, gR_Y3, gR_Y4, gR_Y5, gI_Y6, gR_Y7, gR_Y8, gR_Y9, gR_Y10, gI_Y11, gI_Y12, gR_Y13, gR_Y14, gR_Y15, gR_Y16, gR_Y17, gR_Y18, gI_Y19, gI_Y20, gI_Y21, gI_Y22, gI_Y23, gR_Y24, gR_Y25, gR_Y26, gR_Y27, gR_Y28, gI_Y29, gI_Y30, gI_Y31, gR_Y33, gR_Y34, gI_Y35, gR_Y36, cV_Y, bk_some, bind_some', zb_0, zb_1, zb_or, cc_or, kset_1, kset_21, kint_1, kint_21, kint_22, putY_moved, ht, m_goDays w Y1 hW hs1 (show m < 1000 by omega), gA_Y59 w _ _ hp, ha, ix_nI (show p < 2 ^ 31 by omega), ix_nI (show m < 2 ^ 31 by omega), if_true, if_false, not_true_eq_false, not_false_eq_true, Bool.false_eq_true, Bool.true_eq_false, reduceIte, ite_true, ite_false]
        · simp (decide := true) only [p_in32 (x := nI m) (a := 0) (b := 60) (a' := 0) (b' := 60) rfl rfl, p_in32 (x := nI 2) (a := 0) (b := 2) (a' := 0) (b' := 2) rfl rfl, h1, h2, h3, m_isPerson, sF_Y19, gI_Y0, gR_Y1, gR_Y2, gR_Y3, gR_Y4, gR_Y5, gI_Y6, gR_Y7, gR_Y8, gR_Y9, gR_Y10, gI_Y11, gI_Y12, gR_Y13, gR_Y14, gR_Y15, gR_Y16, gR_Y17, gR_Y18, gI_Y19, gI_Y20, gI_Y21, gI_Y22, gI_Y23, gR_Y24, gR_Y25, gR_Y26, gR_Y27, gR_Y28, gI_Y29, gI_Y30, gI_Y31, gR_Y33, gR_Y34, gI_Y35, gR_Y36, cV_Y, bk_some, bind_some', zb_0, zb_1, zb_or, cc_or, kset_1, kset_21, kint_1, kint_21, kint_22, putY_moved, ht, m_goDays w Y1 hW hs1 (show m < 1000 by omega), m_calledBits w Y1 hWd hp, ha, ix_nI (show p < 2 ^ 31 by omega), ix_nI (show m < 2 ^ 31 by omega), if_true, if_false, not_true_eq_false, not_false_eq_true, Bool.false_eq_true, Bool.true_eq_false, reduceIte, ite_true, ite_false]
      · have h3 := Bool.eq_false_iff.mpr h3
        refine ⟨yint Y 1 0, Yk.thrown Y 0, ?_⟩
        simp only [p_in32 (x := n) (a := 0) (b := 60) (a' := 0) (b' := 60) rfl rfl, p_in32 (x := k) (a := 0) (b := 2) (a' := 0) (b' := 2) rfl rfl, h1, h2, h3, m_isPerson, sF_Y19, gI_Y0, gR_Y1, gR_Y2, gR_Y3, gR_Y4, gR_Y5, gI_Y6, gR_Y7, gR_Y8, gR_Y9, gR_Y10, gI_Y11, gI_Y12, gR_Y13, gR_Y14, gR_Y15, gR_Y16, gR_Y17, gR_Y18, gI_Y19, gI_Y20, gI_Y21, gI_Y22, gI_Y23, gR_Y24, gR_Y25, gR_Y26, gR_Y27, gR_Y28, gI_Y29, gI_Y30, gI_Y31, gR_Y33, gR_Y34, gI_Y35, gR_Y36, cV_Y, bk_some, bind_some', zb_0, zb_1, zb_or, cc_or, kset_1, kset_21, kint_1, kint_21, kint_22, putY_moved, if_true, if_false, not_true_eq_false, not_false_eq_true, Bool.false_eq_true, Bool.true_eq_false, reduceIte, ite_true, ite_false]
    · have h2 := Bool.eq_false_iff.mpr h2
      refine ⟨yint Y 1 0, Yk.thrown Y 0, ?_⟩
      simp only [p_in32 (x := n) (a := 0) (b := 60) (a' := 0) (b' := 60) rfl rfl, h1, h2, m_isPerson, sF_Y19, gI_Y0, gR_Y1, gR_Y2, gR_Y3, gR_Y4, gR_Y5, gI_Y6, gR_Y7, gR_Y8, gR_Y9, gR_Y10, gI_Y11, gI_Y12, gR_Y13, gR_Y14, gR_Y15, gR_Y16, gR_Y17, gR_Y18, gI_Y19, gI_Y20, gI_Y21, gI_Y22, gI_Y23, gR_Y24, gR_Y25, gR_Y26, gR_Y27, gR_Y28, gI_Y29, gI_Y30, gI_Y31, gR_Y33, gR_Y34, gI_Y35, gR_Y36, cV_Y, bk_some, bind_some', zb_0, zb_1, zb_or, cc_or, kset_1, kset_21, kint_1, kint_21, kint_22, putY_moved, if_true, if_false, not_true_eq_false, not_false_eq_true, Bool.false_eq_true, Bool.true_eq_false, reduceIte, ite_true, ite_false]
  · have h1 := Bool.eq_false_iff.mpr h1
    refine ⟨yint Y 1 0, Yk.thrown Y 0, ?_⟩
    simp only [h1, m_isPerson, sF_Y19, gI_Y0, gR_Y1, gR_Y2, gR_Y3, gR_Y4, gR_Y5, gI_Y6, gR_Y7, gR_Y8, gR_Y9, gR_Y10, gI_Y11, gI_Y12, gR_Y13, gR_Y14, gR_Y15, gR_Y16, gR_Y17, gR_Y18, gI_Y19, gI_Y20, gI_Y21, gI_Y22, gI_Y23, gR_Y24, gR_Y25, gR_Y26, gR_Y27, gR_Y28, gI_Y29, gI_Y30, gI_Y31, gR_Y33, gR_Y34, gI_Y35, gR_Y36, cV_Y, bk_some, bind_some', zb_0, zb_1, zb_or, cc_or, kset_1, kset_21, kint_1, kint_21, kint_22, putY_moved, if_true, if_false, not_true_eq_false, not_false_eq_true, Bool.false_eq_true, Bool.true_eq_false, reduceIte, ite_true, ite_false]
/-- the first day from d on, m of them looked at, at which P is so, and the state then -/
def fstD (P : aK → Bool) : Nat → Nat → aK → Option (Nat × aK)
  | 0, _, _ => none
  | m + 1, d, κ => if P κ = true then some (d, κ) else fstD P m (d + 1) (passK 0 κ)
def outD (P : aK → Bool) (R : Nat → aK → Int32) (m d : Nat) (κ : aK) : Int32 := (fstD P m d κ).elim (-4) (fun r => R r.1 r.2)
theorem out_yes {P : aK → Bool} {R : Nat → aK → Int32} {m d : Nat} {κ : aK} (h : P κ = true) : outD P R (m + 1) d κ = R d κ := by
  unfold outD fstD; rw [if_pos h]; rfl
theorem out_no {P : aK → Bool} {R : Nat → aK → Int32} {m d : Nat} {κ : aK} (h : P κ = false) : outD P R (m + 1) d κ = outD P R m (d + 1) (passK 0 κ) := by
  unfold outD; rw [fstD, if_neg (by rw [h]; decide)]
theorem whileX (w : aW) (X : aX) (B : (Int32 → aW → Option (Int32 × aW)) → Int32 → aW → Option (Int32 × aW)) (P : aK → Bool) (R : Nat → aK → Int32)
    (h0 : ∀ k κ, B k (nI 61) (putX w (xmind X κ)) = some (-4, putX w (xmind X κ)))
    (h1 : ∀ k d κ, d ≤ 60 → WF κ → B k (nI d) (putX w (xmind X κ)) = if P κ = true then some (R d κ, putX w (xmind X κ)) else k (nI (d + 1)) (putX w (xmind X (passK 0 κ)))) :
    ∀ (m d : Nat) (κ : aK) (n : Nat), d + m = 61 → m < n → WF κ → ∃ μ, loop2 B n (nI d) (putX w (xmind X κ)) = some (outD P R m d κ, putX w (xmind X μ))
  | 0, d, κ, n + 1, hm, _, _ => by
    have : d = 61 := by omega
    subst this
    exact ⟨κ, h0 _ κ⟩
  | m + 1, d, κ, n + 1, hm, hn, hW => by
    show ∃ μ, B (loop2 B n) (nI d) (putX w (xmind X κ)) = _
    rw [h1 _ d κ (by omega) hW]
    by_cases h : P κ = true
    · exact ⟨κ, by rw [if_pos h, out_yes h]⟩
    · obtain ⟨μ, hμ⟩ := whileX w X B P R h0 h1 m (d + 1) (passK 0 κ) n (by omega) (by omega) (pass_WF hW (m := 0) (by decide))
      exact ⟨μ, by rw [if_neg h, out_no (Bool.eq_false_iff.mpr h)]; exact hμ⟩
theorem le_60 {d : Nat} (h : d ≤ 60) : ¬ (60 : Int32) < nI d := fun z => by
  have := (nI_ltI (a := 60) (b := d) (by decide) (by omega)).mp z
  omega
theorem gt_60 : (60 : Int32) < nI 61 := by decide
def namedK (x k : Int32) (κ : aK) : Int32 := if inR x 0 (nI κ.1 - 1) = true then (if inR k 0 1 = true then outD (fun κ => !decide (κ.2.2 4 (ix x) = -4)) (fun d κ => if k = 0 then nI d else κ.2.2 4 (ix x)) 61 0 κ else -1) else -1
theorem x_named (w : aW) {X : aX} (hW : WF X.1) (x k : Int32) : ∃ μ, f_X3_named 0 x k (putX w X) = some (namedK x k X.1, putX w (xmind X μ)) := by
  unfold f_X3_named namedK
  by_cases h1 : inR x 0 (nI X.1.1 - 1) = true
  · by_cases h2 : inR k 0 1 = true
    · obtain ⟨b, hb, hx⟩ := inB hW.1 h1
      subst hx
      have hb9 : b < 9 := by have := hW.1; omega
      have e := whileX w X (c_X3_named_28 0 (nI b) k) (fun κ => !decide (κ.2.2 4 b = -4)) (fun d κ => if k = 0 then nI d else κ.2.2 4 b)
        (fun k' κ => by simp only [c_X3_named_28, gt_60, if_true, if_false, not_true_eq_false, not_false_eq_true, Bool.false_eq_true, Bool.true_eq_false, reduceIte, ite_true, ite_false])
        (fun k' d κ hd hκ => by
          simp only [c_X3_named_28, le_60 hd, gR_X0, gR_X1, gR_X2, gI_X3, gR_X4, gR_X5, gR_X6, cV_X, x_think, xmind_1, xmind_0, xmind_2, xnow_0, xnow_1, xnow_2, bk_some, bind_some', zb_0, zb_1, zb_or, cc_or, T_cV, T_gI0, T_gI1, T_gI2, T_gI3, T_gR4, T_gR5, T_gR6, T_gR7, T_gR8, T_gR9, T_gR10, T_gR11, T_gR12, T_hasBeast, T_isAlive, T_calledBy, T_calledByAnybody, T_needTogether, T_workTogether, T_freeOnes, T_gA4 w _ hb9, T_passDay w (X := xmind X κ) hκ, nI_1, if_true, if_false, not_true_eq_false, not_false_eq_true, Bool.false_eq_true, Bool.true_eq_false, reduceIte, ite_true, ite_false]
          by_cases h : κ.2.2 4 b = -4
          · simp [h]
          · by_cases h' : k = 0 <;> simp [h, h'])
        61 0 X.1 a_fuel rfl (by decide) hW
      obtain ⟨μ, hμ⟩ := e
      refine ⟨μ, ?_⟩
      simp only [h1, h2, gR_X0, gR_X1, gR_X2, gI_X3, gR_X4, gR_X5, gR_X6, cV_X, x_think, xmind_1, xmind_0, xmind_2, xnow_0, xnow_1, xnow_2, bk_some, bind_some', zb_0, zb_1, zb_or, cc_or, N_cV, N_gI0, N_gI1, N_gI2, N_gI3, N_gR4, N_gR5, N_gR6, N_gR7, N_gR8, N_gR9, N_gR10, N_gR11, N_gR12, N_hasBeast, N_isAlive, N_calledBy, N_calledByAnybody, N_needTogether, N_workTogether, N_freeOnes, p_within, ix_nI (show b < 2 ^ 31 by omega), if_true, if_false, not_true_eq_false, not_false_eq_true, Bool.false_eq_true, Bool.true_eq_false, reduceIte, ite_true, ite_false]
      exact hμ
    · have h2 := Bool.eq_false_iff.mpr h2
      exact ⟨X.2.1, by simp only [h1, h2, gR_X0, gR_X1, gR_X2, gI_X3, gR_X4, gR_X5, gR_X6, cV_X, x_think, xmind_1, xmind_0, xmind_2, xnow_0, xnow_1, xnow_2, bk_some, bind_some', zb_0, zb_1, zb_or, cc_or, N_cV, N_gI0, N_gI1, N_gI2, N_gI3, N_gR4, N_gR5, N_gR6, N_gR7, N_gR8, N_gR9, N_gR10, N_gR11, N_gR12, N_hasBeast, N_isAlive, N_calledBy, N_calledByAnybody, N_needTogether, N_workTogether, N_freeOnes, p_within, if_true, if_false, not_true_eq_false, not_false_eq_true, Bool.false_eq_true, Bool.true_eq_false, reduceIte, ite_true, ite_false]; rfl⟩
  · have h1 := Bool.eq_false_iff.mpr h1
    exact ⟨X.2.1, by simp only [h1, gR_X0, gR_X1, gR_X2, gI_X3, gR_X4, gR_X5, gR_X6, cV_X, x_think, xmind_1, xmind_0, xmind_2, xnow_0, xnow_1, xnow_2, bk_some, bind_some', zb_0, zb_1, zb_or, cc_or, N_cV, N_gI0, N_gI1, N_gI2, N_gI3, N_gR4, N_gR5, N_gR6, N_gR7, N_gR8, N_gR9, N_gR10, N_gR11, N_gR12, N_hasBeast, N_isAlive, N_calledBy, N_calledByAnybody, N_needTogether, N_workTogether, N_freeOnes, p_within, if_true, if_false, not_true_eq_false, not_false_eq_true, Bool.false_eq_true, Bool.true_eq_false, reduceIte, ite_true, ite_false]; rfl⟩
def ruinedK (x : Int32) (κ : aK) : Int32 := if inR x 0 4 = true then outD (fun κ => !decide (sumK (fun i => bitB (calledK κ x) (nI i)) (needK κ) 9 ≤ κ.2.2 5 (ix x))) (fun d _ => nI d) 61 0 κ else -1
theorem x_ruined (w : aW) {X : aX} (hW : WF X.1) (x : Int32) : ∃ μ, f_X3_ruined 0 x (putX w X) = some (ruinedK x X.1, putX w (xmind X μ)) := by
  unfold f_X3_ruined ruinedK
  by_cases h1 : inR x 0 4 = true
  · obtain ⟨p, hp, hx⟩ := inP h1
    subst hx
    have e := whileX w X (c_X3_ruined_15 0 (nI p)) (fun κ => !decide (sumK (fun i => bitB (calledK κ (nI p)) (nI i)) (needK κ) 9 ≤ κ.2.2 5 p)) (fun d _ => nI d)
      (fun k' κ => by simp only [c_X3_ruined_15, gt_60, if_true, if_false, not_true_eq_false, not_false_eq_true, Bool.false_eq_true, Bool.true_eq_false, reduceIte, ite_true, ite_false])
      (fun k' d κ hd hκ => by
        simp only [c_X3_ruined_15, le_60 hd, gR_X0, gR_X1, gR_X2, gI_X3, gR_X4, gR_X5, gR_X6, cV_X, x_think, xmind_1, xmind_0, xmind_2, xnow_0, xnow_1, xnow_2, bk_some, bind_some', zb_0, zb_1, zb_or, cc_or, T_cV, T_gI0, T_gI1, T_gI2, T_gI3, T_gR4, T_gR5, T_gR6, T_gR7, T_gR8, T_gR9, T_gR10, T_gR11, T_gR12, T_hasBeast, T_isAlive, T_calledBy, T_calledByAnybody, T_needTogether, T_workTogether, T_freeOnes, T_gA5 w _ hp, T_passDay w (X := xmind X κ) hκ, nI_1, if_true, if_false, not_true_eq_false, not_false_eq_true, Bool.false_eq_true, Bool.true_eq_false, reduceIte, ite_true, ite_false]
        by_cases h : sumK (fun i => bitB (calledK κ (nI p)) (nI i)) (needK κ) 9 ≤ κ.2.2 5 p <;> simp [h])
      61 0 X.1 a_fuel rfl (by decide) hW
    obtain ⟨μ, hμ⟩ := e
    refine ⟨μ, ?_⟩
    simp only [h1, gR_X0, gR_X1, gR_X2, gI_X3, gR_X4, gR_X5, gR_X6, cV_X, x_think, xmind_1, xmind_0, xmind_2, xnow_0, xnow_1, xnow_2, bk_some, bind_some', zb_0, zb_1, zb_or, cc_or, p_isPerson, ix_nI (show p < 2 ^ 31 by omega), if_true, if_false, not_true_eq_false, not_false_eq_true, Bool.false_eq_true, Bool.true_eq_false, reduceIte, ite_true, ite_false]
    exact hμ
  · have h1 := Bool.eq_false_iff.mpr h1
    exact ⟨X.2.1, by simp only [h1, gR_X0, gR_X1, gR_X2, gI_X3, gR_X4, gR_X5, gR_X6, cV_X, x_think, xmind_1, xmind_0, xmind_2, xnow_0, xnow_1, xnow_2, bk_some, bind_some', zb_0, zb_1, zb_or, cc_or, p_isPerson, if_true, if_false, not_true_eq_false, not_false_eq_true, Bool.false_eq_true, Bool.true_eq_false, reduceIte, ite_true, ite_false]; rfl⟩
