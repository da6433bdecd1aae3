/-! PURE: the best of a few: stand and teach -/
theorem T_sA (w : aW) (X : aX) (k : Nat) (hk : k < 9) {i : Nat} (hi : i < kln k) (x : Int32) : sA (putX w X) (11 + (k + 1)) (nI i) x = some (putX w (xmind X (kset X.2.1 k i x))) := by
  rw [X_mind w X, sA_M d20 X.2.1 k hk hi, X_mind']
theorem x_meansBehind (w : aW) (X : aX) {κ : aK} (hW : WF κ) {p n : Nat} (hp : p < 5) (hn : n < 1000) : f_X3_meansBehind 0 (nI p) (nI n) (putX w (xmind X κ)) = some ((daysK n κ).2.2 5 p, putX w (xmind X (daysK n κ))) := by
  unfold f_X3_meansBehind
  simp only [gR_X0, gR_X1, gR_X2, gI_X3, gR_X4, gR_X5, gR_X6, cV_X, x_think, xmind_1, xmind_0, xmind_2, xnow_0, xnow_1, xnow_2, bk_some, bind_some', zb_0, zb_1, zb_or, cc_or, T_cV, T_gI0, T_gI1, T_gI2, T_gI3, T_gR4, T_gR5, T_gR6, T_gR7, T_gR8, T_gR9, T_gR10, T_gR11, T_gR12, T_hasBeast, T_isAlive, T_calledBy, T_calledByAnybody, T_needTogether, T_workTogether, T_freeOnes, T_passDays w (X := xmind X κ) hW hn, T_gA5 w _ hp]
theorem m_meansThen (w : aW) {κ0 κ : aK} (hk9 : κ0.1 ≤ 9) (Y : aY) (hW : WF κ) (hs : Y.1 0 = 0) (hK : Kept Y 8 κ0) {p n : Nat} (hp : p < 5) (hn : n < 1000) : ∃ Y', Yk Y Y' ∧ Kept Y' 8 κ0 ∧ f_X4_meansThen 50 (nI p) (nI n) (putY w κ Y) = some ((daysK n κ).2.2 5 p, putY w κ0 Y') := by
  obtain ⟨Y2, e2, hK2, ha⟩ := k_again w (daysK n κ) Y hk9 hK
  refine ⟨Y2, e2, hK2, ?_⟩
  unfold f_X4_meansThen
  simp only [gI_Y0, gR_Y1, gR_Y2, gR_Y3, gR_Y4, gR_Y5, gI_Y6, gR_Y7, gR_Y8, gR_Y9, gR_Y10, gI_Y11, gI_Y12, gR_Y13, gR_Y14, gR_Y15, gR_Y16, gR_Y17, gR_Y18, gI_Y19, gI_Y20, gI_Y21, gI_Y22, gI_Y23, gR_Y24, gR_Y25, gR_Y26, gR_Y27, gR_Y28, gI_Y29, gI_Y30, gI_Y31, gR_Y33, gR_Y34, gI_Y35, gR_Y36, cV_Y, bk_some, bind_some', zb_0, zb_1, zb_or, cc_or, kset_1, kset_21, kint_1, kint_21, kint_22, putY_moved, m_goDays w Y hW hs hn, gA_Y56 w _ _ hp, ha]
def bestS (v : Nat → Int32) (i : Nat) (s : Int32 × Nat) : Int32 × Nat := if v i ≤ s.1 then s else (v i, i)
theorem bestX (w : aW) (X : aX) (B : (Int32 → Int32 → Int32 → aW → Option (Int32 × aW)) → Int32 → Int32 → Int32 → aW → Option (Int32 × aW)) (N : Nat) (v : Nat → Int32) (fin : Int32 × Nat → Int32)
    (he : ∀ k (s : Int32 × Nat) μ, B k s.1 (nI s.2) (nI N) (putX w (xmind X μ)) = some (fin s, putX w (xmind X μ)))
    (hs : ∀ (s : Int32 × Nat) i μ, i < N → ∃ μ', ∀ k, B k s.1 (nI s.2) (nI i) (putX w (xmind X μ)) = if v i ≤ s.1 then k s.1 (nI s.2) (nI (i + 1)) (putX w (xmind X μ')) else k (v i) (nI i) (nI (i + 1)) (putX w (xmind X μ'))) :
    ∀ (m i : Nat) (s : Int32 × Nat) (μ : aK) (n : Nat), i + m = N → m < n → ∃ μ', loop4 B n s.1 (nI s.2) (nI i) (putX w (xmind X μ)) = some (fin (itr (bestS v) i m s), putX w (xmind X μ'))
  | 0, i, s, μ, n + 1, hm, _ => by
    have : i = N := by omega
    subst this
    exact ⟨μ, he _ s μ⟩
  | m + 1, i, s, μ, n + 1, hm, hn => by
    obtain ⟨μ1, h1⟩ := hs s i μ (by omega)
    rw [loop4_s, h1]
    by_cases h : v i ≤ s.1
    · rw [if_pos h]
      obtain ⟨μ', h'⟩ := bestX w X B N v fin he hs m (i + 1) s μ1 n (by omega) (by omega)
      refine ⟨μ', ?_⟩
      rw [h']
      show _ = some (fin (itr (bestS v) (i + 1) m (bestS v i s)), _)
      rw [show bestS v i s = s from if_pos h]
    · rw [if_neg h]
      obtain ⟨μ', h'⟩ := bestX w X B N v fin he hs m (i + 1) (v i, i) μ1 n (by omega) (by omega)
      refine ⟨μ', ?_⟩
      show loop4 B n (v i) (nI i) (nI (i + 1)) _ = some (fin (itr (bestS v) (i + 1) m (bestS v i s)), _)
      rw [show bestS v i s = (v i, i) from if_neg h]
      exact h'
theorem bestY (w : aW) (κ0 : aK) (B : (Int32 → Int32 → Int32 → aW → Option (Int32 × aW)) → Int32 → Int32 → Int32 → aW → Option (Int32 × aW)) (N : Nat) (v : Nat → Int32) (fin : Int32 × Nat → Int32)
    (he : ∀ k (s : Int32 × Nat) Y, B k (nI s.2) s.1 (nI N) (putY w κ0 Y) = some (fin s, putY w κ0 Y))
    (hs : ∀ (s : Int32 × Nat) i Y, i < N → Y.1 0 = 0 → Kept Y 8 κ0 → ∃ Y', Yk Y Y' ∧ Kept Y' 8 κ0 ∧ ∀ k, B k (nI s.2) s.1 (nI i) (putY w κ0 Y) = if v i ≤ s.1 then k (nI s.2) s.1 (nI (i + 1)) (putY w κ0 Y') else k (nI i) (v i) (nI (i + 1)) (putY w κ0 Y')) :
    ∀ (m i : Nat) (s : Int32 × Nat) (Y : aY) (n : Nat), i + m = N → m < n → Y.1 0 = 0 → Kept Y 8 κ0 → ∃ Y', Yk Y Y' ∧ loop4 B n (nI s.2) s.1 (nI i) (putY w κ0 Y) = some (fin (itr (bestS v) i m s), putY w κ0 Y')
  | 0, i, s, Y, n + 1, hm, _, _, _ => by
    have : i = N := by omega
    subst this
    exact ⟨Y, Yk.refl Y, he _ s Y⟩
  | m + 1, i, s, Y, n + 1, hm, hn, h0, hK => by
    obtain ⟨Y1, e1, hK1, h1⟩ := hs s i Y (by omega) h0 hK
    rw [loop4_s, h1]
    by_cases h : v i ≤ s.1
    · rw [if_pos h]
      obtain ⟨Y', e', h'⟩ := bestY w κ0 B N v fin he hs m (i + 1) s Y1 n (by omega) (by omega) (e1.1.1.trans h0) hK1
      refine ⟨Y', e1.trans e', ?_⟩
      rw [h']
      show _ = some (fin (itr (bestS v) (i + 1) m (bestS v i s)), _)
      rw [show bestS v i s = s from if_pos h]
    · rw [if_neg h]
      obtain ⟨Y', e', h'⟩ := bestY w κ0 B N v fin he hs m (i + 1) (v i, i) Y1 n (by omega) (by omega) (e1.1.1.trans h0) hK1
      refine ⟨Y', e1.trans e', ?_⟩
      show loop4 B n (nI i) (v i) (nI (i + 1)) _ = some (fin (itr (bestS v) (i + 1) m (bestS v i s)), _)
      rw [show bestS v i s = (v i, i) from if_neg h]
      exact h'
theorem le_refl_N (N : Nat) : nI N ≤ nI N := Int32.le_refl _
def standK (x n k : Int32) (κ : aK) : Int32 := if inR x 0 4 = true then (if inR n 0 20 = true then (if inR k 0 1 = true then (if k = 0 then nI (itr (bestS (fun i => (daysK (ix n) (kset κ 6 (ix x) (nI i))).2.2 5 (ix x))) 0 16 (-1, 0)).2 else (itr (bestS (fun i => (daysK (ix n) (kset κ 6 (ix x) (nI i))).2.2 5 (ix x))) 0 16 (-1, 0)).1) else -1) else -1) else -1
theorem stand_lt {i : Nat} (h : i < 16) : ¬ (16 : Int32) ≤ nI i := nI_ge h (by decide)
theorem stand_in {x : Int32} (h : inR x 0 20 = true) : ∃ n, n ≤ 20 ∧ x = nI n := inR_nI (n := 20) (by decide) h
theorem x_stand (w : aW) {X : aX} (hW : WF X.1) (x n k : Int32) : ∃ μ, f_X3_stand 0 x n k (putX w X) = some (standK x n k X.1, putX w (xmind X μ)) := by
  unfold f_X3_stand standK
  by_cases h1 : inR x 0 4 = true
  · by_cases h2 : inR n 0 20 = true
    · by_cases h3 : inR k 0 1 = true
      · obtain ⟨p, hp, hx⟩ := inP h1
        obtain ⟨m, hm, hn⟩ := stand_in h2
        subst hx hn
        obtain ⟨μ, hμ⟩ := bestX w X (c_X3_stand_37 0 (nI p) (nI m) k) 16 (fun i => (daysK m (kset X.1 6 p (nI i))).2.2 5 p) (fun s => if k = 0 then nI s.2 else s.1)
          (fun k' s μ => by
            simp only [c_X3_stand_37, show (16 : Int32) ≤ nI 16 by decide, if_true, if_false, not_true_eq_false, not_false_eq_true, Bool.false_eq_true, Bool.true_eq_false, reduceIte, ite_true, ite_false]
            by_cases h : k = 0 <;> simp [h])
          (fun s i μ hi => ⟨daysK m (kset X.1 6 p (nI i)), fun k' => by
            have hs := T_sA w (xmind X X.1) 6 (by decide) (i := p) hp (nI i)
            simp only [Nat.reduceAdd] at hs
            simp only [c_X3_stand_37, stand_lt hi, gR_X0, gR_X1, gR_X2, gI_X3, gR_X4, gR_X5, gR_X6, cV_X, x_think, xmind_1, xmind_0, xmind_2, xnow_0, xnow_1, xnow_2, bk_some, bind_some', zb_0, zb_1, zb_or, cc_or, T_cV, T_gI0, T_gI1, T_gI2, T_gI3, T_gR4, T_gR5, T_gR6, T_gR7, T_gR8, T_gR9, T_gR10, T_gR11, T_gR12, T_hasBeast, T_isAlive, T_calledBy, T_calledByAnybody, T_needTogether, T_workTogether, T_freeOnes, hs, x_meansBehind w X (hW.spot (p := p) (x := i) (show i ≤ 15 by omega)) hp (show m < 1000 by omega), nI_1, if_true, if_false, not_true_eq_false, not_false_eq_true, Bool.false_eq_true, Bool.true_eq_false, reduceIte, ite_true, ite_false]⟩)
          16 0 (-1, 0) X.2.1 a_fuel rfl (by decide)
        refine ⟨μ, ?_⟩
        simp only [h1, h2, h3, p_isPerson, p_within, gR_X0, gR_X1, gR_X2, gI_X3, gR_X4, gR_X5, gR_X6, cV_X, x_think, xmind_1, xmind_0, xmind_2, xnow_0, xnow_1, xnow_2, bk_some, bind_some', zb_0, zb_1, zb_or, cc_or, ix_nI (show p < 2 ^ 31 by omega), ix_nI (show m < 2 ^ 31 by omega), if_true, if_false, not_true_eq_false, not_false_eq_true, Bool.false_eq_true, Bool.true_eq_false, reduceIte, ite_true, ite_false]
        exact hμ
      · have h3 := Bool.eq_false_iff.mpr h3
        exact ⟨X.2.1, by simp only [h1, h2, h3, gR_X0, gR_X1, gR_X2, gI_X3, gR_X4, gR_X5, gR_X6, cV_X, x_think, xmind_1, xmind_0, xmind_2, xnow_0, xnow_1, xnow_2, bk_some, bind_some', zb_0, zb_1, zb_or, cc_or, p_isPerson, p_within, if_true, if_false, not_true_eq_false, not_false_eq_true, Bool.false_eq_true, Bool.true_eq_false, reduceIte, ite_true, ite_false]; rfl⟩
    · have h2 := Bool.eq_false_iff.mpr h2
      exact ⟨X.2.1, by simp only [h1, h2, gR_X0, gR_X1, gR_X2, gI_X3, gR_X4, gR_X5, gR_X6, cV_X, x_think, xmind_1, xmind_0, xmind_2, xnow_0, xnow_1, xnow_2, bk_some, bind_some', zb_0, zb_1, zb_or, cc_or, p_isPerson, p_within, if_true, if_false, not_true_eq_false, not_false_eq_true, Bool.false_eq_true, Bool.true_eq_false, reduceIte, ite_true, ite_false]; rfl⟩
  · have h1 := Bool.eq_false_iff.mpr h1
    exact ⟨X.2.1, by simp only [h1, gR_X0, gR_X1, gR_X2, gI_X3, gR_X4, gR_X5, gR_X6, cV_X, x_think, xmind_1, xmind_0, xmind_2, xnow_0, xnow_1, xnow_2, bk_some, bind_some', zb_0, zb_1, zb_or, cc_or, p_isPerson, p_within, if_true, if_false, not_true_eq_false, not_false_eq_true, Bool.false_eq_true, Bool.true_eq_false, reduceIte, ite_true, ite_false]; rfl⟩
theorem m_stand (w : aW) (Y : aY) {κ : aK} (hW : WF κ) (hs : Y.1 0 = 0) (x n k : Int32) : ∃ Y', Yk Y Y' ∧ f_X4_stand 50 x n k (putY w κ Y) = some (standK x n k κ, putY w κ Y') := by
  have hk9 := hW.1
  unfold f_X4_stand standK
  by_cases h1 : inR x 0 4 = true
  · by_cases h2 : inR n 0 20 = true
    · by_cases h3 : inR k 0 1 = true
      · obtain ⟨p, hp, hx⟩ := inP h1
        obtain ⟨m, hm, hn⟩ := stand_in h2
        subst hx hn
        obtain ⟨Y1, e1, hK, ht⟩ := k_think w (yint Y 1 0) hk9
        have hs1 : Y1.1 0 = 0 := e1.1.1.trans hs
        obtain ⟨Y2, e2, hl⟩ := bestY w κ (c_X4_stand_49 50 (nI p) (nI m) k) 16 (fun i => (daysK m (kset κ 6 p (nI i))).2.2 5 p) (fun s => if k = 0 then nI s.2 else s.1)
          (fun k' s Y => by
            simp only [c_X4_stand_49, show (16 : Int32) ≤ nI 16 by decide, if_true, if_false, not_true_eq_false, not_false_eq_true, Bool.false_eq_true, Bool.true_eq_false, reduceIte, ite_true, ite_false]
            by_cases h : k = 0 <;> simp [h])
          (fun s i Y hi h0 hK => by
            obtain ⟨Y3, e3, hK3, hmt⟩ := m_meansThen w hk9 Y (hW.spot (p := p) (x := i) (show i ≤ 15 by omega)) h0 hK hp (show m < 1000 by omega)
            refine ⟨Y3, e3, hK3, fun k' => ?_⟩
            simp only [c_X4_stand_49, c_X4_stand_86, stand_lt hi, gI_Y0, gR_Y1, gR_Y2, gR_Y3, gR_Y4, gR_Y5, gI_Y6, gR_Y7, gR_Y8, gR_Y9, gR_Y10, gI_Y11, gI_Y12, gR_Y13, gR_Y14, gR_Y15, gR_Y16, gR_Y17, gR_Y18, gI_Y19, gI_Y20, gI_Y21, gI_Y22, gI_Y23, gR_Y24, gR_Y25, gR_Y26, gR_Y27, gR_Y28, gI_Y29, gI_Y30, gI_Y31, gR_Y33, gR_Y34, gI_Y35, gR_Y36, cV_Y, bk_some, bind_some', zb_0, zb_1, zb_or, cc_or, kset_1, kset_21, kint_1, kint_21, kint_22, putY_moved, sA_Y57 w κ Y hp, hmt, nI_1, if_true, if_false, not_true_eq_false, not_false_eq_true, Bool.false_eq_true, Bool.true_eq_false, reduceIte, ite_true, ite_false]
            by_cases h : (daysK m (kset κ 6 p (nI i))).2.2 5 p ≤ s.1
            · simp only [h, if_true]
            · simp only [h, if_false])
          16 0 (-1, 0) Y1 a_fuel rfl (by decide) hs1 hK
        refine ⟨Y2, ((Yk.thrown Y 0).trans e1).trans e2, ?_⟩
        simp only [p_in32 (x := nI m) (a := 0) (b := 20) (a' := 0) (b' := 20) rfl rfl, p_in32 (x := k) (a := 0) (b := 1) (a' := 0) (b' := 1) rfl rfl, h1, h2, h3, m_isPerson, sF_Y19, gI_Y0, gR_Y1, gR_Y2, gR_Y3, gR_Y4, gR_Y5, gI_Y6, gR_Y7, gR_Y8, gR_Y9, gR_Y10, gI_Y11, gI_Y12, gR_Y13, gR_Y14, gR_Y15, gR_Y16, gR_Y17, gR_Y18, gI_Y19, gI_Y20, gI_Y21, gI_Y22, gI_Y23, gR_Y24, gR_Y25, gR_Y26, gR_Y27, gR_Y28, gI_Y29, gI_Y30, gI_Y31, gR_Y33, gR_Y34, gI_Y35, gR_Y36, cV_Y, bk_some, bind_some', zb_0, zb_1, zb_or, cc_or, kset_1, kset_21, kint_1, kint_21, kint_22, putY_moved, ht, ix_nI (show p < 2 ^ 31 by omega), ix_nI (show m < 2 ^ 31 by omega), if_true, if_false, not_true_eq_false, not_false_eq_true, Bool.false_eq_true, Bool.true_eq_false, reduceIte, ite_true, ite_false]
        exact hl
      · have h3 := Bool.eq_false_iff.mpr h3
        refine ⟨yint Y 1 0, Yk.thrown Y 0, ?_⟩
        simp only [p_in32 (x := n) (a := 0) (b := 20) (a' := 0) (b' := 20) rfl rfl, p_in32 (x := k) (a := 0) (b := 1) (a' := 0) (b' := 1) rfl rfl, h1, h2, h3, m_isPerson, sF_Y19, gI_Y0, gR_Y1, gR_Y2, gR_Y3, gR_Y4, gR_Y5, gI_Y6, gR_Y7, gR_Y8, gR_Y9, gR_Y10, gI_Y11, gI_Y12, gR_Y13, gR_Y14, gR_Y15, gR_Y16, gR_Y17, gR_Y18, gI_Y19, gI_Y20, gI_Y21, gI_Y22, gI_Y23, gR_Y24, gR_Y25, gR_Y26, gR_Y27, gR_Y28, gI_Y29, gI_Y30, gI_Y31, gR_Y33, gR_Y34, gI_Y35, gR_Y36, cV_Y, bk_some, bind_some', zb_0, zb_1, zb_or, cc_or, kset_1, kset_21, kint_1, kint_21, kint_22, putY_moved, if_true, if_false, not_true_eq_false, not_false_eq_true, Bool.false_eq_true, Bool.true_eq_false, reduceIte, ite_true, ite_false]
    · have h2 := Bool.eq_false_iff.mpr h2
      refine ⟨yint Y 1 0, Yk.thrown Y 0, ?_⟩
      simp only [p_in32 (x := n) (a := 0) (b := 20) (a' := 0) (b' := 20) rfl rfl, h1, h2, m_isPerson, sF_Y19, gI_Y0, gR_Y1, gR_Y2, gR_Y3, gR_Y4, gR_Y5, gI_Y6, gR_Y7, gR_Y8, gR_Y9, gR_Y10, gI_Y11, gI_Y12, gR_Y13, gR_Y14, gR_Y15, gR_Y16, gR_Y17, gR_Y18, gI_Y19, gI_Y20, gI_Y21, gI_Y22, gI_Y23, gR_Y24, gR_Y25, gR_Y26, gR_Y27, gR_Y28, gI_Y29, gI_Y30, gI_Y31, gR_Y33, gR_Y34, gI_Y35, gR_Y36, cV_Y, bk_some, bind_some', zb_0, zb_1, zb_or, cc_or, kset_1, kset_21, kint_1, kint_21, kint_22, putY_moved, if_true, if_false, not_true_eq_false, not_false_eq_true, Bool.false_eq_true, Bool.true_eq_false, reduceIte, ite_true, ite_false]
  · have h1 := Bool.eq_false_iff.mpr h1
    refine ⟨yint Y 1 0, Yk.thrown Y 0, ?_⟩
    simp only [h1, m_isPerson, sF_Y19, gI_Y0, gR_Y1, gR_Y2, gR_Y3, gR_Y4, gR_Y5, gI_Y6, gR_Y7, gR_Y8, gR_Y9, gR_Y10, gI_Y11, gI_Y12, gR_Y13, gR_Y14, gR_Y15, gR_Y16, gR_Y17, gR_Y18, gI_Y19, gI_Y20, gI_Y21, gI_Y22, gI_Y23, gR_Y24, gR_Y25, gR_Y26, gR_Y27, gR_Y28, gI_Y29, gI_Y30, gI_Y31, gR_Y33, gR_Y34, gI_Y35, gR_Y36, cV_Y, bk_some, bind_some', zb_0, zb_1, zb_or, cc_or, kset_1, kset_21, kint_1, kint_21, kint_22, putY_moved, if_true, if_false, not_true_eq_false, not_false_eq_true, Bool.false_eq_true, Bool.true_eq_false, reduceIte, ite_true, ite_false]
def teachK (x n k : Int32) (κ : aK) : Int32 := if inR x 0 4 = true then (if inR n 0 30 = true then (if inR k 0 1 = true then (if k = 0 then nI (itr (bestS (fun i => (daysK (ix n) (kset κ 7 (ix x) (nI i))).2.2 5 (ix x))) 0 4 (-1, 0)).2 else (itr (bestS (fun i => (daysK (ix n) (kset κ 7 (ix x) (nI i))).2.2 5 (ix x))) 0 4 (-1, 0)).1) else -1) else -1) else -1
theorem teach_lt {i : Nat} (h : i < 4) : ¬ (4 : Int32) ≤ nI i := nI_ge h (by decide)
theorem teach_in {x : Int32} (h : inR x 0 30 = true) : ∃ n, n ≤ 30 ∧ x = nI n := inR_nI (n := 30) (by decide) h
theorem x_teach (w : aW) {X : aX} (hW : WF X.1) (x n k : Int32) : ∃ μ, f_X3_teach 0 x n k (putX w X) = some (teachK x n k X.1, putX w (xmind X μ)) := by
  unfold f_X3_teach teachK
  by_cases h1 : inR x 0 4 = true
  · by_cases h2 : inR n 0 30 = true
    · by_cases h3 : inR k 0 1 = true
      · obtain ⟨p, hp, hx⟩ := inP h1
        obtain ⟨m, hm, hn⟩ := teach_in h2
        subst hx hn
        obtain ⟨μ, hμ⟩ := bestX w X (c_X3_teach_37 0 (nI p) (nI m) k) 4 (fun i => (daysK m (kset X.1 7 p (nI i))).2.2 5 p) (fun s => if k = 0 then nI s.2 else s.1)
          (fun k' s μ => by
            simp only [c_X3_teach_37, show (4 : Int32) ≤ nI 4 by decide, if_true, if_false, not_true_eq_false, not_false_eq_true, Bool.false_eq_true, Bool.true_eq_false, reduceIte, ite_true, ite_false]
            by_cases h : k = 0 <;> simp [h])
          (fun s i μ hi => ⟨daysK m (kset X.1 7 p (nI i)), fun k' => by
            have hs := T_sA w (xmind X X.1) 7 (by decide) (i := p) hp (nI i)
            simp only [Nat.reduceAdd] at hs
            simp only [c_X3_teach_37, teach_lt hi, gR_X0, gR_X1, gR_X2, gI_X3, gR_X4, gR_X5, gR_X6, cV_X, x_think, xmind_1, xmind_0, xmind_2, xnow_0, xnow_1, xnow_2, bk_some, bind_some', zb_0, zb_1, zb_or, cc_or, T_cV, T_gI0, T_gI1, T_gI2, T_gI3, T_gR4, T_gR5, T_gR6, T_gR7, T_gR8, T_gR9, T_gR10, T_gR11, T_gR12, T_hasBeast, T_isAlive, T_calledBy, T_calledByAnybody, T_needTogether, T_workTogether, T_freeOnes, hs, x_meansBehind w X (hW.speech (p := p) (x := i) (show i ≤ 3 by omega)) hp (show m < 1000 by omega), nI_1, if_true, if_false, not_true_eq_false, not_false_eq_true, Bool.false_eq_true, Bool.true_eq_false, reduceIte, ite_true, ite_false]⟩)
          4 0 (-1, 0) X.2.1 a_fuel rfl (by decide)
        refine ⟨μ, ?_⟩
        simp only [h1, h2, h3, p_isPerson, p_within, gR_X0, gR_X1, gR_X2, gI_X3, gR_X4, gR_X5, gR_X6, cV_X, x_think, xmind_1, xmind_0, xmind_2, xnow_0, xnow_1, xnow_2, bk_some, bind_some', zb_0, zb_1, zb_or, cc_or, ix_nI (show p < 2 ^ 31 by omega), ix_nI (show m < 2 ^ 31 by omega), if_true, if_false, not_true_eq_false, not_false_eq_true, Bool.false_eq_true, Bool.true_eq_false, reduceIte, ite_true, ite_false]
        exact hμ
      · have h3 := Bool.eq_false_iff.mpr h3
        exact ⟨X.2.1, by simp only [h1, h2, h3, gR_X0, gR_X1, gR_X2, gI_X3, gR_X4, gR_X5, gR_X6, cV_X, x_think, xmind_1, xmind_0, xmind_2, xnow_0, xnow_1, xnow_2, bk_some, bind_some', zb_0, zb_1, zb_or, cc_or, p_isPerson, p_within, if_true, if_false, not_true_eq_false, not_false_eq_true, Bool.false_eq_true, Bool.true_eq_false, reduceIte, ite_true, ite_false]; rfl⟩
    · have h2 := Bool.eq_false_iff.mpr h2
      exact ⟨X.2.1, by simp only [h1, h2, gR_X0, gR_X1, gR_X2, gI_X3, gR_X4, gR_X5, gR_X6, cV_X, x_think, xmind_1, xmind_0, xmind_2, xnow_0, xnow_1, xnow_2, bk_some, bind_some', zb_0, zb_1, zb_or, cc_or, p_isPerson, p_within, if_true, if_false, not_true_eq_false, not_false_eq_true, Bool.false_eq_true, Bool.true_eq_false, reduceIte, ite_true, ite_false]; rfl⟩
  · have h1 := Bool.eq_false_iff.mpr h1
    exact ⟨X.2.1, by simp only [h1, gR_X0, gR_X1, gR_X2, gI_X3, gR_X4, gR_X5, gR_X6, cV_X, x_think, xmind_1, xmind_0, xmind_2, xnow_0, xnow_1, xnow_2, bk_some, bind_some', zb_0, zb_1, zb_or, cc_or, p_isPerson, p_within, if_true, if_false, not_true_eq_false, not_false_eq_true, Bool.false_eq_true, Bool.true_eq_false, reduceIte, ite_true, ite_false]; rfl⟩
theorem m_teach (w : aW) (Y : aY) {κ : aK} (hW : WF κ) (hs : Y.1 0 = 0) (x n k : Int32) : ∃ Y', Yk Y Y' ∧ f_X4_teach 50 x n k (putY w κ Y) = some (teachK x n k κ, putY w κ Y') := by
  have hk9 := hW.1
  unfold f_X4_teach teachK
  by_cases h1 : inR x 0 4 = true
  · by_cases h2 : inR n 0 30 = true
    · by_cases h3 : inR k 0 1 = true
      · obtain ⟨p, hp, hx⟩ := inP h1
        obtain ⟨m, hm, hn⟩ := teach_in h2
        subst hx hn
        obtain ⟨Y1, e1, hK, ht⟩ := k_think w (yint Y 1 0) hk9
        have hs1 : Y1.1 0 = 0 := e1.1.1.trans hs
        obtain ⟨Y2, e2, hl⟩ := bestY w κ (c_X4_teach_49 50 (nI p) (nI m) k) 4 (fun i => (daysK m (kset κ 7 p (nI i))).2.2 5 p) (fun s => if k = 0 then nI s.2 else s.1)
          (fun k' s Y => by
            simp only [c_X4_teach_49, show (4 : Int32) ≤ nI 4 by decide, if_true, if_false, not_true_eq_false, not_false_eq_true, Bool.false_eq_true, Bool.true_eq_false, reduceIte, ite_true, ite_false]
            by_cases h : k = 0 <;> simp [h])
          (fun s i Y hi h0 hK => by
            obtain ⟨Y3, e3, hK3, hmt⟩ := m_meansThen w hk9 Y (hW.speech (p := p) (x := i) (show i ≤ 3 by omega)) h0 hK hp (show m < 1000 by omega)
            refine ⟨Y3, e3, hK3, fun k' => ?_⟩
            simp only [c_X4_teach_49, c_X4_teach_85, teach_lt hi, gI_Y0, gR_Y1, gR_Y2, gR_Y3, gR_Y4, gR_Y5, gI_Y6, gR_Y7, gR_Y8, gR_Y9, gR_Y10, gI_Y11, gI_Y12, gR_Y13, gR_Y14, gR_Y15, gR_Y16, gR_Y17, gR_Y18, gI_Y19, gI_Y20, gI_Y21, gI_Y22, gI_Y23, gR_Y24, gR_Y25, gR_Y26, gR_Y27, gR_Y28, gI_Y29, gI_Y30, gI_Y31, gR_Y33, gR_Y34, gI_Y35, gR_Y36, cV_Y, bk_some, bind_some', zb_0, zb_1, zb_or, cc_or, kset_1, kset_21, kint_1, kint_21, kint_22, putY_moved, sA_Y58 w κ Y hp, hmt, nI_1, if_true, if_false, not_true_eq_false, not_false_eq_true, Bool.false_eq_true, Bool.true_eq_false, reduceIte, ite_true, ite_false]
            by_cases h : (daysK m (kset κ 7 p (nI i))).2.2 5 p ≤ s.1
            · simp only [h, if_true]
            · simp only [h, if_false])
          4 0 (-1, 0) Y1 a_fuel rfl (by decide) hs1 hK
        refine ⟨Y2, ((Yk.thrown Y 0).trans e1).trans e2, ?_⟩
        simp only [p_in32 (x := nI m) (a := 0) (b := 30) (a' := 0) (b' := 30) rfl rfl, p_in32 (x := k) (a := 0) (b := 1) (a' := 0) (b' := 1) rfl rfl, h1, h2, h3, m_isPerson, sF_Y19, gI_Y0, gR_Y1, gR_Y2, gR_Y3, gR_Y4, gR_Y5, gI_Y6, gR_Y7, gR_Y8, gR_Y9, gR_Y10, gI_Y11, gI_Y12, gR_Y13, gR_Y14, gR_Y15, gR_Y16, gR_Y17, gR_Y18, gI_Y19, gI_Y20, gI_Y21, gI_Y22, gI_Y23, gR_Y24, gR_Y25, gR_Y26, gR_Y27, gR_Y28, gI_Y29, gI_Y30, gI_Y31, gR_Y33, gR_Y34, gI_Y35, gR_Y36, cV_Y, bk_some, bind_some', zb_0, zb_1, zb_or, cc_or, kset_1, kset_21, kint_1, kint_21, kint_22, putY_moved, ht, ix_nI (show p < 2 ^ 31 by omega), ix_nI (show m < 2 ^ 31 by omega), if_true, if_false, not_true_eq_false, not_false_eq_true, Bool.false_eq_true, Bool.true_eq_false, reduceIte, ite_true, ite_false]
        exact hl
      · have h3 := Bool.eq_false_iff.mpr h3
        refine ⟨yint Y 1 0, Yk.thrown Y 0, ?_⟩
        simp only [p_in32 (x := n) (a := 0) (b := 30) (a' := 0) (b' := 30) rfl rfl, p_in32 (x := k) (a := 0) (b := 1) (a' := 0) (b' := 1) rfl rfl, h1, h2, h3, m_isPerson, sF_Y19, gI_Y0, gR_Y1, gR_Y2, gR_Y3, gR_Y4, gR_Y5, gI_Y6, gR_Y7, gR_Y8, gR_Y9, gR_Y10, gI_Y11, gI_Y12, gR_Y13, gR_Y14, gR_Y15, gR_Y16, gR_Y17, gR_Y18, gI_Y19, gI_Y20, gI_Y21, gI_Y22, gI_Y23, gR_Y24, gR_Y25, gR_Y26, gR_Y27, gR_Y28, gI_Y29, gI_Y30, gI_Y31, gR_Y33, gR_Y34, gI_Y35, gR_Y36, cV_Y, bk_some, bind_some', zb_0, zb_1, zb_or, cc_or, kset_1, kset_21, kint_1, kint_21, kint_22, putY_moved, if_true, if_false, not_true_eq_false, not_false_eq_true, Bool.false_eq_true, Bool.true_eq_false, reduceIte, ite_true, ite_false]
    · have h2 := Bool.eq_false_iff.mpr h2
      refine ⟨yint Y 1 0, Yk.thrown Y 0, ?_⟩
      simp only [p_in32 (x := n) (a := 0) (b := 30) (a' := 0) (b' := 30) rfl rfl, h1, h2, m_isPerson, sF_Y19, gI_Y0, gR_Y1, gR_Y2, gR_Y3, gR_Y4, gR_Y5, gI_Y6, gR_Y7, gR_Y8, gR_Y9, gR_Y10, gI_Y11, gI_Y12, gR_Y13, gR_Y14, gR_Y15, gR_Y16, gR_Y17, gR_Y18, gI_Y19, gI_Y20, gI_Y21, gI_Y22, gI_Y23, gR_Y24, gR_Y25, gR_Y26, gR_Y27, gR_Y28, gI_Y29, gI_Y30, gI_Y31, gR_Y33, gR_Y34, gI_Y35, gR_Y36, cV_Y, bk_some, bind_some', zb_0, zb_1, zb_or, cc_or, kset_1, kset_21, kint_1, kint_21, kint_22, putY_moved, if_true, if_false, not_true_eq_false, not_false_eq_true, Bool.false_eq_true, Bool.true_eq_false, reduceIte, ite_true, ite_false]
  · have h1 := Bool.eq_false_iff.mpr h1
    refine ⟨yint Y 1 0, Yk.thrown Y 0, ?_⟩
    simp only [h1, m_isPerson, sF_Y19, gI_Y0, gR_Y1, gR_Y2, gR_Y3, gR_Y4, gR_Y5, gI_Y6, gR_Y7, gR_Y8, gR_Y9, gR_Y10, gI_Y11, gI_Y12, gR_Y13, gR_Y14, gR_Y15, gR_Y16, gR_Y17, gR_Y18, gI_Y19, gI_Y20, gI_Y21, gI_Y22, gI_Y23, gR_Y24, gR_Y25, gR_Y26, gR_Y27, gR_Y28, gI_Y29, gI_Y30, gI_Y31, gR_Y33, gR_Y34, gI_Y35, gR_Y36, cV_Y, bk_some, bind_some', zb_0, zb_1, zb_or, cc_or, kset_1, kset_21, kint_1, kint_21, kint_22, putY_moved, if_true, if_false, not_true_eq_false, not_false_eq_true, Bool.false_eq_true, Bool.true_eq_false, reduceIte, ite_true, ite_false]
