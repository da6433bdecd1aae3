/-! PURE: what-ifs at the model: days until something is so -/
def outZ (z : Int32) (P : aK → Bool) (m d : Nat) (κ : aK) : Int32 := (fstD P m d κ).elim z (fun r => nI r.1)
theorem outZ_yes {z : Int32} {P : aK → Bool} {m d : Nat} {κ : aK} (h : P κ = true) : outZ z P (m + 1) d κ = nI d := by
  unfold outZ fstD; rw [if_pos h]; rfl
theorem outZ_no {z : Int32} {P : aK → Bool} {m d : Nat} {κ : aK} (h : P κ = false) : outZ z P (m + 1) d κ = outZ z P m (d + 1) (passK 0 κ) := by
  unfold outZ; rw [fstD, if_neg (by rw [h]; decide)]
theorem whileY (w : aW) {κ0 : aK} (B : (Int32 → Int32 → aW → Option (Int32 × aW)) → Int32 → Int32 → aW → Option (Int32 × aW)) (z : Int32) (P : aK → Bool)
    (h0 : ∀ k κ Y, Kept Y 8 κ0 → ∃ Y', Yk Y Y' ∧ B k z (nI 61) (putY w κ Y) = some (z, putY w κ0 Y'))
    (hx : ∀ k d κ Y, d ≤ 60 → Kept Y 8 κ0 → ∃ Y', Yk Y Y' ∧ B k (nI d) (nI (d + 1)) (putY w κ Y) = some (nI d, putY w κ0 Y'))
    (h1 : ∀ k d κ Y, d ≤ 60 → WF κ → κ.1 = κ0.1 → Y.1 0 = 0 → Kept Y 8 κ0 → B k z (nI d) (putY w κ Y) = k (if P κ = true then nI d else z) (nI (d + 1)) (putY w (passK 0 κ) Y)) :
    ∀ (m d : Nat) (κ : aK) (Y : aY) (n : Nat), d + m = 61 → m < n → WF κ → κ.1 = κ0.1 → Y.1 0 = 0 → Kept Y 8 κ0 → ∃ Y', Yk Y Y' ∧ loop3 B n z (nI d) (putY w κ Y) = some (outZ z P m d κ, putY w κ0 Y')
  | 0, d, κ, Y, n + 1, hm, _, _, _, _, hK => by
    have : d = 61 := by omega
    subst this
    exact h0 _ κ Y hK
  | m + 1, d, κ, Y, n + 1, hm, hn, hW, hk, hs, hK => by
    show ∃ Y', Yk Y Y' ∧ B (loop3 B n) z (nI d) (putY w κ Y) = _
    rw [h1 _ d κ Y (by omega) hW hk hs hK]
    by_cases h : P κ = true
    · rw [if_pos h, outZ_yes h]
      obtain ⟨n', rfl⟩ : ∃ n', n = n' + 1 := ⟨n - 1, by omega⟩
      exact hx _ d (passK 0 κ) Y (by omega) hK
    · rw [if_neg h, outZ_no (Bool.eq_false_iff.mpr h)]
      exact whileY w B z P h0 hx h1 m (d + 1) (passK 0 κ) Y n (by omega) (by omega) (pass_WF hW (m := 0) (by decide)) ((pass_1 0 κ).trans hk) hs hK
theorem outZ_D (P : aK → Bool) (m d : Nat) (κ : aK) : outZ (-4) P m d κ = outD P (fun d _ => nI d) m d κ := rfl
theorem m_ruined (w : aW) (Y : aY) {κ : aK} (hW : WF κ) (hs : Y.1 0 = 0) (x : Int32) : ∃ Y', Yk Y Y' ∧ f_X4_ruined 50 x (putY w κ Y) = some (ruinedK x κ, putY w κ Y') := by
  have hk9 := hW.1
  unfold f_X4_ruined ruinedK
  by_cases h1 : inR x 0 4 = true
  · obtain ⟨p, hp, hx⟩ := inP h1
    subst hx
    obtain ⟨Y1, e1, hK, ht⟩ := k_think w (yint Y 1 0) hk9
    have hs1 : Y1.1 0 = 0 := e1.1.1.trans hs
    obtain ⟨Y2, e2, hl⟩ := whileY w (κ0 := κ) (c_X4_ruined_23 50 (nI p)) (-4) (fun κ => !decide (sumK (fun i => bitB (calledK κ (nI p)) (nI i)) (needK κ) 9 ≤ κ.2.2 5 p))
      (fun k' κ' Y hK => by
        obtain ⟨Y2, e2, -, ha⟩ := k_again w κ' Y hk9 hK
        exact ⟨Y2, e2, by simp only [c_X4_ruined_23, gt_60, gI_Y0, gR_Y1, gR_Y2, gR_Y3, gR_Y4, gR_Y5, gI_Y6, gR_Y7, gR_Y8, gR_Y9, gR_Y10, gI_Y11, gI_Y12, gR_Y13, gR_Y14, gR_Y15, gR_Y16, gR_Y17, gR_Y18, gI_Y19, gI_Y20, gI_Y21, gI_Y22, gI_Y23, gR_Y24, gR_Y25, gR_Y26, gR_Y27, gR_Y28, gI_Y29, gI_Y30, gI_Y31, gR_Y33, gR_Y34, gI_Y35, gR_Y36, cV_Y, bk_some, bind_some', zb_0, zb_1, zb_or, cc_or, kset_1, kset_21, kint_1, kint_21, kint_22, putY_moved, ha, if_true, if_false, not_true_eq_false, not_false_eq_true, Bool.false_eq_true, Bool.true_eq_false, reduceIte, ite_true, ite_false]⟩)
      (fun k' d κ' Y hd hK => by
        obtain ⟨Y2, e2, -, ha⟩ := k_again w κ' Y hk9 hK
        refine ⟨Y2, e2, ?_⟩
        by_cases hd' : 60 < nI (d + 1)
        · simp only [c_X4_ruined_23, hd', gI_Y0, gR_Y1, gR_Y2, gR_Y3, gR_Y4, gR_Y5, gI_Y6, gR_Y7, gR_Y8, gR_Y9, gR_Y10, gI_Y11, gI_Y12, gR_Y13, gR_Y14, gR_Y15, gR_Y16, gR_Y17, gR_Y18, gI_Y19, gI_Y20, gI_Y21, gI_Y22, gI_Y23, gR_Y24, gR_Y25, gR_Y26, gR_Y27, gR_Y28, gI_Y29, gI_Y30, gI_Y31, gR_Y33, gR_Y34, gI_Y35, gR_Y36, cV_Y, bk_some, bind_some', zb_0, zb_1, zb_or, cc_or, kset_1, kset_21, kint_1, kint_21, kint_22, putY_moved, ha, if_true, if_false, not_true_eq_false, not_false_eq_true, Bool.false_eq_true, Bool.true_eq_false, reduceIte, ite_true, ite_false]
        · simp only [c_X4_ruined_23, hd', nI_pos' (show d < 2 ^ 31 by omega), gI_Y0, gR_Y1, gR_Y2, gR_Y3, gR_Y4, gR_Y5, gI_Y6, gR_Y7, gR_Y8, gR_Y9, gR_Y10, gI_Y11, gI_Y12, gR_Y13, gR_Y14, gR_Y15, gR_Y16, gR_Y17, gR_Y18, gI_Y19, gI_Y20, gI_Y21, gI_Y22, gI_Y23, gR_Y24, gR_Y25, gR_Y26, gR_Y27, gR_Y28, gI_Y29, gI_Y30, gI_Y31, gR_Y33, gR_Y34, gI_Y35, gR_Y36, cV_Y, bk_some, bind_some', zb_0, zb_1, zb_or, cc_or, kset_1, kset_21, kint_1, kint_21, kint_22, putY_moved, ha, if_true, if_false, not_true_eq_false, not_false_eq_true, Bool.false_eq_true, Bool.true_eq_false, reduceIte, ite_true, ite_false])
      (fun k' d κ' Y hd hκ hk hs hK => by
        simp only [c_X4_ruined_23, le_60 hd, m4_neg, gI_Y0, gR_Y1, gR_Y2, gR_Y3, gR_Y4, gR_Y5, gI_Y6, gR_Y7, gR_Y8, gR_Y9, gR_Y10, gI_Y11, gI_Y12, gR_Y13, gR_Y14, gR_Y15, gR_Y16, gR_Y17, gR_Y18, gI_Y19, gI_Y20, gI_Y21, gI_Y22, gI_Y23, gR_Y24, gR_Y25, gR_Y26, gR_Y27, gR_Y28, gI_Y29, gI_Y30, gI_Y31, gR_Y33, gR_Y34, gI_Y35, gR_Y36, cV_Y, bk_some, bind_some', zb_0, zb_1, zb_or, cc_or, kset_1, kset_21, kint_1, kint_21, kint_22, putY_moved, gA_Y56 w _ _ hp, m_needBy w Y hκ hp, m_dayOn0 w Y hκ hs, nI_1, if_true, if_false, not_true_eq_false, not_false_eq_true, Bool.false_eq_true, Bool.true_eq_false, reduceIte, ite_true, ite_false]
        by_cases h : sumK (fun i => bitB (calledK κ' (nI p)) (nI i)) (needK κ') 9 ≤ κ'.2.2 5 p <;> simp [h])
      61 0 κ Y1 a_fuel rfl (by decide) hW rfl hs1 hK
    refine ⟨Y2, ((Yk.thrown Y 0).trans e1).trans e2, ?_⟩
    simp only [h1, m_isPerson, sF_Y19, gI_Y0, gR_Y1, gR_Y2, gR_Y3, gR_Y4, gR_Y5, gI_Y6, gR_Y7, gR_Y8, gR_Y9, gR_Y10, gI_Y11, gI_Y12, gR_Y13, gR_Y14, gR_Y15, gR_Y16, gR_Y17, gR_Y18, gI_Y19, gI_Y20, gI_Y21, gI_Y22, gI_Y23, gR_Y24, gR_Y25, gR_Y26, gR_Y27, gR_Y28, gI_Y29, gI_Y30, gI_Y31, gR_Y33, gR_Y34, gI_Y35, gR_Y36, cV_Y, bk_some, bind_some', zb_0, zb_1, zb_or, cc_or, kset_1, kset_21, kint_1, kint_21, kint_22, putY_moved, ht, ix_nI (show p < 2 ^ 31 by omega), if_true, if_false, not_true_eq_false, not_false_eq_true, Bool.false_eq_true, Bool.true_eq_false, reduceIte, ite_true, ite_false]
    exact hl
  · have h1 := Bool.eq_false_iff.mpr h1
    refine ⟨yint Y 1 0, Yk.thrown Y 0, ?_⟩
    simp only [h1, m_isPerson, sF_Y19, gI_Y0, gR_Y1, gR_Y2, gR_Y3, gR_Y4, gR_Y5, gI_Y6, gR_Y7, gR_Y8, gR_Y9, gR_Y10, gI_Y11, gI_Y12, gR_Y13, gR_Y14, gR_Y15, gR_Y16, gR_Y17, gR_Y18, gI_Y19, gI_Y20, gI_Y21, gI_Y22, gI_Y23, gR_Y24, gR_Y25, gR_Y26, gR_Y27, gR_Y28, gI_Y29, gI_Y30, gI_Y31, gR_Y33, gR_Y34, gI_Y35, gR_Y36, cV_Y, bk_some, bind_some', zb_0, zb_1, zb_or, cc_or, kset_1, kset_21, kint_1, kint_21, kint_22, putY_moved, if_true, if_false, not_true_eq_false, not_false_eq_true, Bool.false_eq_true, Bool.true_eq_false, reduceIte, ite_true, ite_false]
def deadP (b : Nat) (κ : aK) : Bool := !bitB (κ.2.1 1) (nI b)
theorem n61 {d : Nat} (hd : d ≤ 60) : ¬ nI d = 61 := fun h => by
  have := congrArg Int32.toNatClampNeg h
  rw [nI_clamp (by omega), show (61 : Int32).toNatClampNeg = 61 from rfl] at this
  omega
theorem m_diesIn (w : aW) (Y : aY) {κ : aK} (hW : WF κ) (hs : Y.1 0 = 0) {b : Nat} (hb : b < 9) : ∃ Y', Yk Y Y' ∧ f_X4_diesIn 50 (nI b) (putY w κ Y) = some (outZ 61 (deadP b) 61 0 κ, putY w κ Y') := by
  have hk9 := hW.1
  unfold f_X4_diesIn
  obtain ⟨Y1, e1, hK, ht⟩ := k_think w Y hk9
  have hs1 : Y1.1 0 = 0 := e1.1.1.trans hs
  obtain ⟨Y2, e2, hl⟩ := whileY w (κ0 := κ) (c_X4_diesIn_9 50 (nI b)) 61 (deadP b)
    (fun k' κ' Y hK => by
      obtain ⟨Y2, e2, -, ha⟩ := k_again w κ' Y hk9 hK
      exact ⟨Y2, e2, by simp only [c_X4_diesIn_9, gt_60, gI_Y0, gR_Y1, gR_Y2, gR_Y3, gR_Y4, gR_Y5, gI_Y6, gR_Y7, gR_Y8, gR_Y9, gR_Y10, gI_Y11, gI_Y12, gR_Y13, gR_Y14, gR_Y15, gR_Y16, gR_Y17, gR_Y18, gI_Y19, gI_Y20, gI_Y21, gI_Y22, gI_Y23, gR_Y24, gR_Y25, gR_Y26, gR_Y27, gR_Y28, gI_Y29, gI_Y30, gI_Y31, gR_Y33, gR_Y34, gI_Y35, gR_Y36, cV_Y, bk_some, bind_some', zb_0, zb_1, zb_or, cc_or, kset_1, kset_21, kint_1, kint_21, kint_22, putY_moved, ha, if_true, if_false, not_true_eq_false, not_false_eq_true, Bool.false_eq_true, Bool.true_eq_false, reduceIte, ite_true, ite_false]⟩)
    (fun k' d κ' Y hd hK => by
      obtain ⟨Y2, e2, -, ha⟩ := k_again w κ' Y hk9 hK
      refine ⟨Y2, e2, ?_⟩
      by_cases hd' : 60 < nI (d + 1)
      · simp only [c_X4_diesIn_9, hd', gI_Y0, gR_Y1, gR_Y2, gR_Y3, gR_Y4, gR_Y5, gI_Y6, gR_Y7, gR_Y8, gR_Y9, gR_Y10, gI_Y11, gI_Y12, gR_Y13, gR_Y14, gR_Y15, gR_Y16, gR_Y17, gR_Y18, gI_Y19, gI_Y20, gI_Y21, gI_Y22, gI_Y23, gR_Y24, gR_Y25, gR_Y26, gR_Y27, gR_Y28, gI_Y29, gI_Y30, gI_Y31, gR_Y33, gR_Y34, gI_Y35, gR_Y36, cV_Y, bk_some, bind_some', zb_0, zb_1, zb_or, cc_or, kset_1, kset_21, kint_1, kint_21, kint_22, putY_moved, ha, if_true, if_false, not_true_eq_false, not_false_eq_true, Bool.false_eq_true, Bool.true_eq_false, reduceIte, ite_true, ite_false]
      · simp only [c_X4_diesIn_9, hd', n61 hd, gI_Y0, gR_Y1, gR_Y2, gR_Y3, gR_Y4, gR_Y5, gI_Y6, gR_Y7, gR_Y8, gR_Y9, gR_Y10, gI_Y11, gI_Y12, gR_Y13, gR_Y14, gR_Y15, gR_Y16, gR_Y17, gR_Y18, gI_Y19, gI_Y20, gI_Y21, gI_Y22, gI_Y23, gR_Y24, gR_Y25, gR_Y26, gR_Y27, gR_Y28, gI_Y29, gI_Y30, gI_Y31, gR_Y33, gR_Y34, gI_Y35, gR_Y36, cV_Y, bk_some, bind_some', zb_0, zb_1, zb_or, cc_or, kset_1, kset_21, kint_1, kint_21, kint_22, putY_moved, ha, if_true, if_false, not_true_eq_false, not_false_eq_true, Bool.false_eq_true, Bool.true_eq_false, reduceIte, ite_true, ite_false])
    (fun k' d κ' Y hd hκ hk hs hK => by
      simp only [c_X4_diesIn_9, le_60 hd, p_hasBit, gI_Y0, gR_Y1, gR_Y2, gR_Y3, gR_Y4, gR_Y5, gI_Y6, gR_Y7, gR_Y8, gR_Y9, gR_Y10, gI_Y11, gI_Y12, gR_Y13, gR_Y14, gR_Y15, gR_Y16, gR_Y17, gR_Y18, gI_Y19, gI_Y20, gI_Y21, gI_Y22, gI_Y23, gR_Y24, gR_Y25, gR_Y26, gR_Y27, gR_Y28, gI_Y29, gI_Y30, gI_Y31, gR_Y33, gR_Y34, gI_Y35, gR_Y36, cV_Y, bk_some, bind_some', zb_0, zb_1, zb_or, cc_or, kset_1, kset_21, kint_1, kint_21, kint_22, putY_moved, m_dayOn0 w Y hκ hs, nI_1, if_true, if_false, not_true_eq_false, not_false_eq_true, Bool.false_eq_true, Bool.true_eq_false, reduceIte, ite_true, ite_false]
      unfold deadP
      by_cases h : bitB (κ'.2.1 1) (nI b) = true <;> simp [h])
    61 0 κ Y1 a_fuel rfl (by decide) hW rfl hs1 hK
  refine ⟨Y2, e1.trans e2, ?_⟩
  simp only [gI_Y0, gR_Y1, gR_Y2, gR_Y3, gR_Y4, gR_Y5, gI_Y6, gR_Y7, gR_Y8, gR_Y9, gR_Y10, gI_Y11, gI_Y12, gR_Y13, gR_Y14, gR_Y15, gR_Y16, gR_Y17, gR_Y18, gI_Y19, gI_Y20, gI_Y21, gI_Y22, gI_Y23, gR_Y24, gR_Y25, gR_Y26, gR_Y27, gR_Y28, gI_Y29, gI_Y30, gI_Y31, gR_Y33, gR_Y34, gI_Y35, gR_Y36, cV_Y, bk_some, bind_some', zb_0, zb_1, zb_or, cc_or, kset_1, kset_21, kint_1, kint_21, kint_22, putY_moved, ht, if_true, if_false, not_true_eq_false, not_false_eq_true, Bool.false_eq_true, Bool.true_eq_false, reduceIte, ite_true, ite_false]
  exact hl
theorem fst_rng {P : aK → Bool} : ∀ (m d : Nat) (κ : aK) (r : Nat × aK), fstD P m d κ = some r → d ≤ r.1 ∧ r.1 < d + m
  | 0, _, _, _, h => by cases h
  | m + 1, d, κ, r, h => by
    unfold fstD at h
    by_cases hp : P κ = true
    · rw [if_pos hp] at h; cases h; exact ⟨Nat.le_refl _, by show d < d + (m + 1); omega⟩
    · rw [if_neg hp] at h
      have := fst_rng m (d + 1) (passK 0 κ) r h
      omega
theorem outZ_61 (P : aK → Bool) (κ : aK) : (if ¬ outZ 61 P 61 0 κ = 61 then outZ 61 P 61 0 κ else -4) = outZ (-4) P 61 0 κ := by
  unfold outZ
  cases h : fstD P 61 0 κ with
  | none => rfl
  | some r =>
    have := fst_rng 61 0 κ r h
    show (if ¬ nI r.1 = 61 then nI r.1 else -4) = nI r.1
    rw [if_pos (n61 (by omega))]
theorem x_dies1 (w : aW) {X : aX} (hW : WF X.1) {b : Nat} (hb : b < X.1.1) : ∃ μ, f_X3_dies 0 (nI b) (putX w X) = some (outZ (-4) (deadP b) 61 0 X.1, putX w (xmind X μ)) := by
  have hb9 : b < 9 := by have := hW.1; omega
  unfold f_X3_dies
  have e := whileX w X (c_X3_dies_29 0 (nI b)) (deadP b) (fun d _ => nI d)
    (fun k' κ => by simp only [c_X3_dies_29, gt_60, if_true, if_false, not_true_eq_false, not_false_eq_true, Bool.false_eq_true, Bool.true_eq_false, reduceIte, ite_true, ite_false])
    (fun k' d κ hd hκ => by
      simp only [c_X3_dies_29, le_60 hd, gR_X0, gR_X1, gR_X2, gI_X3, gR_X4, gR_X5, gR_X6, cV_X, x_think, xmind_1, xmind_0, xmind_2, xnow_0, xnow_1, xnow_2, bk_some, bind_some', zb_0, zb_1, zb_or, cc_or, T_cV, T_gI0, T_gI1, T_gI2, T_gI3, T_gR4, T_gR5, T_gR6, T_gR7, T_gR8, T_gR9, T_gR10, T_gR11, T_gR12, T_hasBeast, T_isAlive, T_calledBy, T_calledByAnybody, T_needTogether, T_workTogether, T_freeOnes, T_passDay w (X := xmind X κ) hκ, nI_1, if_true, if_false, not_true_eq_false, not_false_eq_true, Bool.false_eq_true, Bool.true_eq_false, reduceIte, ite_true, ite_false]
      unfold deadP
      by_cases h : bitB (κ.2.1 1) (nI b) = true <;> simp [h])
    61 0 X.1 a_fuel rfl (by decide) hW
  obtain ⟨μ, hμ⟩ := e
  refine ⟨μ, ?_⟩
  have h1 : inR (nI b) 0 (nI X.1.1 - 1) = true := by
    rw [nI_sub1 (by omega) hW.1]; exact inR_of (by omega) (by have := hW.1; omega)
  have h2 : ¬ nI b = -1 := fun h => nI_pos (n := b) (by omega) (by rw [h]; decide)
  simp only [h1, h2, gR_X0, gR_X1, gR_X2, gI_X3, gR_X4, gR_X5, gR_X6, cV_X, x_think, xmind_1, xmind_0, xmind_2, xnow_0, xnow_1, xnow_2, bk_some, bind_some', zb_0, zb_1, zb_or, cc_or, N_cV, N_gI0, N_gI1, N_gI2, N_gI3, N_gR4, N_gR5, N_gR6, N_gR7, N_gR8, N_gR9, N_gR10, N_gR11, N_gR12, N_hasBeast, N_isAlive, N_calledBy, N_calledByAnybody, N_needTogether, N_workTogether, N_freeOnes, if_true, if_false, not_true_eq_false, not_false_eq_true, Bool.false_eq_true, Bool.true_eq_false, reduceIte, ite_true, ite_false]
  exact hμ
