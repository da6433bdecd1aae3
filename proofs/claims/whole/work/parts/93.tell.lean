/-! PURE: what sort, where from, whose, judged, forged: at both sides -/
def tellQ (ν : aS) (κ : aK) (b N k f i : Nat) : Bool := (rowO (okS ν) (fun κ => κ.2.2 2 b) N 0 (daysK f (kset κ k b (nI i)))).isNone
def whoI (i : Nat) : Int32 := if i = 5 then -4 else nI i
def whoQ (ν : aS) (κ : aK) (b N i : Nat) : Bool := (rowO (okS ν) (fun κ => κ.2.2 3 b) N 0 (kset κ 4 b (whoI i))).isNone
def szN (ν : aS) : Nat := ix (ν.1 4)
theorem sz_of {ν : aS} {N : Nat} (hN : N ≤ 100) (he : ν.1 4 = nI N) : szN ν = N := by unfold szN; rw [he, ix_nI (by omega)]
theorem lt_8 {i : Nat} (h : i < 8) : ¬ (8 : Int32) ≤ nI i := nI_ge h (by decide)
theorem lt_10 {i : Nat} (h : i < 10) : ¬ (10 : Int32) ≤ nI i := nI_ge h (by decide)
theorem lt_16 {i : Nat} (h : i < 16) : ¬ (16 : Int32) ≤ nI i := nI_ge h (by decide)
theorem x_sorts (w : aW) {X : aX} (hW : WF X.1) {d N : Nat} (hd : d < 8) (hν : WFs (X.2.2.2.2.1 d)) (hN : N ≤ 100) (he : (X.2.2.2.2.1 d).1 4 = nI N) {b : Nat} (hb : b < 9) : ∃ μ, f_X3_sortsThatFit 0 (34 + 2 * d) (nI b) (putX w X) = some (mskK (tellQ (X.2.2.2.2.1 d) X.1 b N 0 0) 8, putX w (xmind X μ)) := by
  unfold f_X3_sortsThatFit
  refine bitsX3 w X (c_X3_sortsThatFit_5 0 (34 + 2 * d) (nI b)) 8 (tellQ (X.2.2.2.2.1 d) X.1 b N 0 0) (fun k m μ => by simp only [c_X3_sortsThatFit_5, show (8 : Int32) ≤ nI 8 by decide, if_true, if_false, not_true_eq_false, not_false_eq_true, Bool.false_eq_true, Bool.true_eq_false, reduceIte, ite_true, ite_false]) (fun i μ hi => ?_) 8 0 0 X.2.1 a_fuel rfl (by decide)
  obtain ⟨μ1, h1⟩ := x_fits w X hd hν hN he hb (k := 2) (by decide) (κ := kset X.1 0 b (nI i)) (hW.sort (by omega))
  have h1 : f_X3_fits 0 (34 + 2 * d) (nI b) 2 (putX w (xmind X (kset X.1 0 b (nI i)))) = some (zb (tellQ (X.2.2.2.2.1 d) X.1 b N 0 0 i), putX w (xmind X μ1)) := h1
  have hs := T_sA w (xmind X X.1) 0 (by decide) (i := b) hb (nI i)
  simp only [Nat.reduceAdd] at hs
  refine ⟨μ1, fun k m => ?_⟩
  by_cases hQ : tellQ (X.2.2.2.2.1 d) X.1 b N 0 0 i = true
  · rw [if_pos hQ]
    simp only [c_X3_sortsThatFit_5, lt_8 hi, gR_X0, gR_X1, gR_X2, gI_X3, gR_X4, gR_X5, gR_X6, cV_X, x_think, xmind_1, xmind_0, xmind_2, xnow_0, xnow_1, xnow_2, bk_some, bind_some', zb_0, zb_1, zb_or, cc_or, T_cV, T_gI0, T_gI1, T_gI2, T_gI3, T_gR4, T_gR5, T_gR6, T_gR7, T_gR8, T_gR9, T_gR10, T_gR11, T_gR12, T_hasBeast, T_isAlive, T_calledBy, T_calledByAnybody, T_needTogether, T_workTogether, T_freeOnes, hs, h1, hQ, nI_1, if_true, if_false, not_true_eq_false, not_false_eq_true, Bool.false_eq_true, Bool.true_eq_false, reduceIte, ite_true, ite_false]
    rfl
  · rw [if_neg hQ]
    simp only [c_X3_sortsThatFit_5, lt_8 hi, gR_X0, gR_X1, gR_X2, gI_X3, gR_X4, gR_X5, gR_X6, cV_X, x_think, xmind_1, xmind_0, xmind_2, xnow_0, xnow_1, xnow_2, bk_some, bind_some', zb_0, zb_1, zb_or, cc_or, T_cV, T_gI0, T_gI1, T_gI2, T_gI3, T_gR4, T_gR5, T_gR6, T_gR7, T_gR8, T_gR9, T_gR10, T_gR11, T_gR12, T_hasBeast, T_isAlive, T_calledBy, T_calledByAnybody, T_needTogether, T_workTogether, T_freeOnes, hs, h1, Bool.eq_false_iff.mpr hQ, nI_1, if_true, if_false, not_true_eq_false, not_false_eq_true, Bool.false_eq_true, Bool.true_eq_false, reduceIte, ite_true, ite_false]
theorem x_figures (w : aW) {X : aX} (hW : WF X.1) {d N : Nat} (hd : d < 8) (hν : WFs (X.2.2.2.2.1 d)) (hN : N ≤ 100) (he : (X.2.2.2.2.1 d).1 4 = nI N) {b : Nat} (hb : b < 9) : ∃ μ, f_X3_figuresThatFit 0 (34 + 2 * d) (nI b) (putX w X) = some (mskK (tellQ (X.2.2.2.2.1 d) X.1 b N 1 0) 10, putX w (xmind X μ)) := by
  unfold f_X3_figuresThatFit
  refine bitsX3 w X (c_X3_figuresThatFit_5 0 (34 + 2 * d) (nI b)) 10 (tellQ (X.2.2.2.2.1 d) X.1 b N 1 0) (fun k m μ => by simp only [c_X3_figuresThatFit_5, show (10 : Int32) ≤ nI 10 by decide, if_true, if_false, not_true_eq_false, not_false_eq_true, Bool.false_eq_true, Bool.true_eq_false, reduceIte, ite_true, ite_false]) (fun i μ hi => ?_) 10 0 0 X.2.1 a_fuel rfl (by decide)
  obtain ⟨μ1, h1⟩ := x_fits w X hd hν hN he hb (k := 2) (by decide) (κ := kset X.1 1 b (nI i)) (hW.figure (by omega))
  have h1 : f_X3_fits 0 (34 + 2 * d) (nI b) 2 (putX w (xmind X (kset X.1 1 b (nI i)))) = some (zb (tellQ (X.2.2.2.2.1 d) X.1 b N 1 0 i), putX w (xmind X μ1)) := h1
  have hs := T_sA w (xmind X X.1) 1 (by decide) (i := b) hb (nI i)
  simp only [Nat.reduceAdd] at hs
  refine ⟨μ1, fun k m => ?_⟩
  by_cases hQ : tellQ (X.2.2.2.2.1 d) X.1 b N 1 0 i = true
  · rw [if_pos hQ]
    simp only [c_X3_figuresThatFit_5, lt_10 hi, gR_X0, gR_X1, gR_X2, gI_X3, gR_X4, gR_X5, gR_X6, cV_X, x_think, xmind_1, xmind_0, xmind_2, xnow_0, xnow_1, xnow_2, bk_some, bind_some', zb_0, zb_1, zb_or, cc_or, T_cV, T_gI0, T_gI1, T_gI2, T_gI3, T_gR4, T_gR5, T_gR6, T_gR7, T_gR8, T_gR9, T_gR10, T_gR11, T_gR12, T_hasBeast, T_isAlive, T_calledBy, T_calledByAnybody, T_needTogether, T_workTogether, T_freeOnes, hs, h1, hQ, nI_1, if_true, if_false, not_true_eq_false, not_false_eq_true, Bool.false_eq_true, Bool.true_eq_false, reduceIte, ite_true, ite_false]
    rfl
  · rw [if_neg hQ]
    simp only [c_X3_figuresThatFit_5, lt_10 hi, gR_X0, gR_X1, gR_X2, gI_X3, gR_X4, gR_X5, gR_X6, cV_X, x_think, xmind_1, xmind_0, xmind_2, xnow_0, xnow_1, xnow_2, bk_some, bind_some', zb_0, zb_1, zb_or, cc_or, T_cV, T_gI0, T_gI1, T_gI2, T_gI3, T_gR4, T_gR5, T_gR6, T_gR7, T_gR8, T_gR9, T_gR10, T_gR11, T_gR12, T_hasBeast, T_isAlive, T_calledBy, T_calledByAnybody, T_needTogether, T_workTogether, T_freeOnes, hs, h1, Bool.eq_false_iff.mpr hQ, nI_1, if_true, if_false, not_true_eq_false, not_false_eq_true, Bool.false_eq_true, Bool.true_eq_false, reduceIte, ite_true, ite_false]
def whatK (x b k : Int32) (κ : aK) (σ : Nat → aS) : Int32 := if inR x 0 7 = true then (if inR b 0 (nI κ.1 - 1) = true then (if inR k 0 1 = true then (if rowR (σ (ix x)) = 0 then (if k = 0 then mskK (tellQ (σ (ix x)) κ (ix b) (szN (σ (ix x))) 0 0) 8 else mskK (tellQ (σ (ix x)) κ (ix b) (szN (σ (ix x))) 1 0) 10) else rowR (σ (ix x))) else -1) else -1) else -1
theorem x_whatIs (w : aW) {X : aX} (hW : WF X.1) (hS : ∀ d, d < 8 → WFs (X.2.2.2.2.1 d)) (x b k : Int32) : ∃ μ, f_X3_whatIs 0 x b k (putX w X) = some (whatK x b k X.1 X.2.2.2.2.1, putX w (xmind X μ)) := by
  unfold f_X3_whatIs whatK
  by_cases h1 : inR x 0 7 = true
  · obtain ⟨d, hd, rfl⟩ := in7 h1
    by_cases h2 : inR b 0 (nI X.1.1 - 1) = true
    · by_cases h3 : inR k 0 1 = true
      · by_cases h4 : rowR (X.2.2.2.2.1 d) = 0
        · obtain ⟨i, hi, rfl⟩ := inB hW.1 h2
          have hi9 : i < 9 := by have := hW.1; omega
          obtain ⟨N, hN, he⟩ := (hS d hd).2.1
          by_cases h5 : k = 0
          · obtain ⟨μ, hμ⟩ := x_sorts w hW hd (hS d hd) hN he hi9
            refine ⟨μ, ?_⟩
            simp only [h1, h2, h3, h4, h5, gR_X0, gR_X1, gR_X2, gI_X3, gR_X4, gR_X5, gR_X6, cV_X, x_think, xmind_1, xmind_0, xmind_2, xnow_0, xnow_1, xnow_2, bk_some, bind_some', zb_0, zb_1, zb_or, cc_or, N_cV, N_gI0, N_gI1, N_gI2, N_gI3, N_gR4, N_gR5, N_gR6, N_gR7, N_gR8, N_gR9, N_gR10, N_gR11, N_gR12, N_hasBeast, N_isAlive, N_calledBy, N_calledByAnybody, N_needTogether, N_workTogether, N_freeOnes, x_shelfAt w X hd, oc_some, p_within, S_cV w X hd, S_rowRefusal w X hd, hμ, ix7 hd, ix_nI (show i < 2 ^ 31 by omega), sz_of hN he, show inR 0 0 1 = true by decide, if_true, if_false, not_true_eq_false, not_false_eq_true, Bool.false_eq_true, Bool.true_eq_false, reduceIte, ite_true, ite_false]
          · obtain ⟨μ, hμ⟩ := x_figures w hW hd (hS d hd) hN he hi9
            refine ⟨μ, ?_⟩
            simp only [h1, h2, h3, h4, h5, gR_X0, gR_X1, gR_X2, gI_X3, gR_X4, gR_X5, gR_X6, cV_X, x_think, xmind_1, xmind_0, xmind_2, xnow_0, xnow_1, xnow_2, bk_some, bind_some', zb_0, zb_1, zb_or, cc_or, N_cV, N_gI0, N_gI1, N_gI2, N_gI3, N_gR4, N_gR5, N_gR6, N_gR7, N_gR8, N_gR9, N_gR10, N_gR11, N_gR12, N_hasBeast, N_isAlive, N_calledBy, N_calledByAnybody, N_needTogether, N_workTogether, N_freeOnes, x_shelfAt w X hd, oc_some, p_within, S_cV w X hd, S_rowRefusal w X hd, hμ, ix7 hd, ix_nI (show i < 2 ^ 31 by omega), sz_of hN he, if_true, if_false, not_true_eq_false, not_false_eq_true, Bool.false_eq_true, Bool.true_eq_false, reduceIte, ite_true, ite_false]
        · refine ⟨X.2.1, ?_⟩
          simp only [h1, h2, h3, h4, gR_X0, gR_X1, gR_X2, gI_X3, gR_X4, gR_X5, gR_X6, cV_X, x_think, xmind_1, xmind_0, xmind_2, xnow_0, xnow_1, xnow_2, bk_some, bind_some', zb_0, zb_1, zb_or, cc_or, N_cV, N_gI0, N_gI1, N_gI2, N_gI3, N_gR4, N_gR5, N_gR6, N_gR7, N_gR8, N_gR9, N_gR10, N_gR11, N_gR12, N_hasBeast, N_isAlive, N_calledBy, N_calledByAnybody, N_needTogether, N_workTogether, N_freeOnes, x_shelfAt w X hd, oc_some, p_within, S_cV w X hd, S_rowRefusal w X hd, ix7 hd, if_true, if_false, not_true_eq_false, not_false_eq_true, Bool.false_eq_true, Bool.true_eq_false, reduceIte, ite_true, ite_false]
          rfl
      · have h3 := Bool.eq_false_iff.mpr h3
        refine ⟨X.2.1, ?_⟩
        simp only [h1, h2, h3, gR_X0, gR_X1, gR_X2, gI_X3, gR_X4, gR_X5, gR_X6, cV_X, x_think, xmind_1, xmind_0, xmind_2, xnow_0, xnow_1, xnow_2, bk_some, bind_some', zb_0, zb_1, zb_or, cc_or, N_cV, N_gI0, N_gI1, N_gI2, N_gI3, N_gR4, N_gR5, N_gR6, N_gR7, N_gR8, N_gR9, N_gR10, N_gR11, N_gR12, N_hasBeast, N_isAlive, N_calledBy, N_calledByAnybody, N_needTogether, N_workTogether, N_freeOnes, x_shelfAt w X hd, oc_some, p_within, if_true, if_false, not_true_eq_false, not_false_eq_true, Bool.false_eq_true, Bool.true_eq_false, reduceIte, ite_true, ite_false]
        rfl
    · have h2 := Bool.eq_false_iff.mpr h2
      refine ⟨X.2.1, ?_⟩
      simp only [h1, h2, gR_X0, gR_X1, gR_X2, gI_X3, gR_X4, gR_X5, gR_X6, cV_X, x_think, xmind_1, xmind_0, xmind_2, xnow_0, xnow_1, xnow_2, bk_some, bind_some', zb_0, zb_1, zb_or, cc_or, N_cV, N_gI0, N_gI1, N_gI2, N_gI3, N_gR4, N_gR5, N_gR6, N_gR7, N_gR8, N_gR9, N_gR10, N_gR11, N_gR12, N_hasBeast, N_isAlive, N_calledBy, N_calledByAnybody, N_needTogether, N_workTogether, N_freeOnes, x_shelfAt w X hd, oc_some, if_true, if_false, not_true_eq_false, not_false_eq_true, Bool.false_eq_true, Bool.true_eq_false, reduceIte, ite_true, ite_false]
      rfl
  · have h1 := Bool.eq_false_iff.mpr h1
    refine ⟨X.2.1, ?_⟩
    simp only [h1, gR_X0, gR_X1, gR_X2, gI_X3, gR_X4, gR_X5, gR_X6, cV_X, x_think, xmind_1, xmind_0, xmind_2, xnow_0, xnow_1, xnow_2, bk_some, bind_some', zb_0, zb_1, zb_or, cc_or, x_shelfNo w X h1, oc_none, if_true, if_false, not_true_eq_false, not_false_eq_true, Bool.false_eq_true, Bool.true_eq_false, reduceIte, ite_true, ite_false]
    rfl
theorem wrong_32 (a1 a2 a3 s : Int32) (w : aW) (h : ¬ (0 : Int32) ≤ s) : c_X4_whatIs_32 50 a1 a2 a3 s w = some (s, w) := by
  simp only [c_X4_whatIs_32, h, if_true, if_false, not_true_eq_false, not_false_eq_true, Bool.false_eq_true, Bool.true_eq_false, reduceIte, ite_true, ite_false]
theorem m_whatIs (w : aW) {Y : aY} {κ : aK} {σ : Nat → aS} (hC : Cp σ Y) (hW : WF κ) (hs : Y.1 0 = 0) (x b k : Int32) : ∃ Y', Yk Y Y' ∧ f_X4_whatIs 50 x b k (putY w κ Y) = some (whatK x b k κ σ, putY w κ Y') := by
  have hk9 := hW.1
  have hC' := hC.thr 0
  have ew := m_wrongRow w κ hC' x
  have hno : ∀ r : Int32, ∃ Y', Yk Y Y' ∧ some (r, putY w κ (yint Y 1 0)) = some (r, putY w κ Y') := fun r => ⟨_, Yk.thrown Y 0, rfl⟩
  have e2 := p_in32 (x := k) (a := 0) (b := 1) (a' := 0) (b' := 1) rfl rfl
  unfold f_X4_whatIs whatK
  by_cases h2 : inR b 0 (nI κ.1 - 1) = true
  · by_cases h3 : inR k 0 1 = true
    · by_cases h1 : inR x 0 7 = true
      · obtain ⟨d, hd, rfl⟩ := in7 h1
        have er : refR σ (nI d) = rowR (σ d) := by unfold refR; rw [if_pos h1, ix7 hd]
        rw [er] at ew
        obtain ⟨hν, hY⟩ := hC' d hd
        by_cases h4 : rowR (σ d) = 0
        · have h20 := rowR_2 h4
          obtain ⟨N, hN, he⟩ := hν.2.1
          obtain ⟨i0, hi0, rfl⟩ := inB hk9 h2
          obtain ⟨Y1, e1, hK, ht⟩ := k_think w (yint Y 1 0) hk9
          have hs1 : Y1.1 0 = 0 := e1.1.1.trans hs
          by_cases h5 : k = 0
          · subst h5
            obtain ⟨Y2, e2', hl⟩ := bitsY3 w κ σ (c_X4_whatIs_52 50 (nI d) (nI i0) 0) 8 (tellQ (σ d) κ i0 N 0 0) (fun k m Y => by simp only [c_X4_whatIs_52, c_X4_whatIs_65, show (8 : Int32) ≤ nI 8 by decide, if_true, if_false, not_true_eq_false, not_false_eq_true, Bool.false_eq_true, Bool.true_eq_false, reduceIte, ite_true, ite_false]) (fun i Y hi h0 hC hK => by
              obtain ⟨Y', e', hK', h'⟩ := m_placeRow w (κ0 := κ) (κ := kset κ 0 i0 (nI i)) hk9 hC hd hN h20 he hi0 (f := 0) (by decide) (hW.sort (by omega)) rfl h0 hK
              have h' : f_X4_isPlaceRow 50 (nI d) (nI i0) 0 (putY w (kset κ 0 i0 (nI i)) Y) = some (zb (tellQ (σ d) κ i0 N 0 0 i), putY w κ Y') := h'
              refine ⟨Y', e', hK', fun k m => ?_⟩
              by_cases hQ : tellQ (σ d) κ i0 N 0 0 i = true
              · rw [if_pos hQ]
                simp only [c_X4_whatIs_52, c_X4_whatIs_65, c_X4_whatIs_88, c_X4_whatIs_110, lt_8 hi, gI_Y0, gR_Y1, gR_Y2, gR_Y3, gR_Y4, gR_Y5, gI_Y6, gR_Y7, gR_Y8, gR_Y9, gR_Y10, gI_Y11, gI_Y12, gR_Y13, gR_Y14, gR_Y15, gR_Y16, gR_Y17, gR_Y18, gI_Y19, gI_Y20, gI_Y21, gI_Y22, gI_Y23, gR_Y24, gR_Y25, gR_Y26, gR_Y27, gR_Y28, gI_Y29, gI_Y30, gI_Y31, gR_Y33, gR_Y34, gI_Y35, gR_Y36, cV_Y, bk_some, bind_some', zb_0, zb_1, zb_or, cc_or, kset_1, kset_21, kint_1, kint_21, kint_22, putY_moved, sA_Y51 w Y hk9 hi0, gA_Y52 w Y (κ := kset κ 0 i0 (nI i)) hk9 hi0, sA_Y52 w Y (κ := kset κ 0 i0 (nI i)) hk9 hi0, kset_self, h', hQ, show ¬ (0 : Int32) = 1 by decide, nI_1, if_true, if_false, not_true_eq_false, not_false_eq_true, Bool.false_eq_true, Bool.true_eq_false, reduceIte, ite_true, ite_false]
                rfl
              · rw [if_neg hQ]
                simp only [c_X4_whatIs_52, c_X4_whatIs_65, c_X4_whatIs_88, c_X4_whatIs_110, lt_8 hi, gI_Y0, gR_Y1, gR_Y2, gR_Y3, gR_Y4, gR_Y5, gI_Y6, gR_Y7, gR_Y8, gR_Y9, gR_Y10, gI_Y11, gI_Y12, gR_Y13, gR_Y14, gR_Y15, gR_Y16, gR_Y17, gR_Y18, gI_Y19, gI_Y20, gI_Y21, gI_Y22, gI_Y23, gR_Y24, gR_Y25, gR_Y26, gR_Y27, gR_Y28, gI_Y29, gI_Y30, gI_Y31, gR_Y33, gR_Y34, gI_Y35, gR_Y36, cV_Y, bk_some, bind_some', zb_0, zb_1, zb_or, cc_or, kset_1, kset_21, kint_1, kint_21, kint_22, putY_moved, sA_Y51 w Y hk9 hi0, gA_Y52 w Y (κ := kset κ 0 i0 (nI i)) hk9 hi0, sA_Y52 w Y (κ := kset κ 0 i0 (nI i)) hk9 hi0, kset_self, h', Bool.eq_false_iff.mpr hQ, show ¬ (0 : Int32) = 1 by decide, i32_or0, nI_1, if_true, if_false, not_true_eq_false, not_false_eq_true, Bool.false_eq_true, Bool.true_eq_false, reduceIte, ite_true, ite_false]) 8 0 0 Y1 a_fuel rfl (by decide) hs1 (hC'.yk e1) hK
            refine ⟨Y2, ((Yk.thrown Y 0).trans e1).trans e2', ?_⟩
            simp only [h1, h2, h3, h4, e2, ew, m_isBeast, sF_Y19, c_X4_whatIs_32, Int32.le_refl, gI_Y0, gR_Y1, gR_Y2, gR_Y3, gR_Y4, gR_Y5, gI_Y6, gR_Y7, gR_Y8, gR_Y9, gR_Y10, gI_Y11, gI_Y12, gR_Y13, gR_Y14, gR_Y15, gR_Y16, gR_Y17, gR_Y18, gI_Y19, gI_Y20, gI_Y21, gI_Y22, gI_Y23, gR_Y24, gR_Y25, gR_Y26, gR_Y27, gR_Y28, gI_Y29, gI_Y30, gI_Y31, gR_Y33, gR_Y34, gI_Y35, gR_Y36, cV_Y, bk_some, bind_some', zb_0, zb_1, zb_or, cc_or, kset_1, kset_21, kint_1, kint_21, kint_22, putY_moved, ht, ix7 hd, ix_nI (show i0 < 2 ^ 31 by omega), sz_of hN he, if_true, if_false, not_true_eq_false, not_false_eq_true, Bool.false_eq_true, Bool.true_eq_false, reduceIte, ite_true, ite_false]
            exact hl
          · have hk1 := a01 h3 h5
            subst hk1
            obtain ⟨Y2, e2', hl⟩ := bitsY3 w κ σ (c_X4_whatIs_52 50 (nI d) (nI i0) 1) 10 (tellQ (σ d) κ i0 N 1 0) (fun k m Y => by simp only [c_X4_whatIs_52, c_X4_whatIs_65, show ¬ (1 : Int32) = 0 by decide, show (10 : Int32) ≤ nI 10 by decide, if_true, if_false, not_true_eq_false, not_false_eq_true, Bool.false_eq_true, Bool.true_eq_false, reduceIte, ite_true, ite_false]) (fun i Y hi h0 hC hK => by
              obtain ⟨Y', e', hK', h'⟩ := m_placeRow w (κ0 := κ) (κ := kset κ 1 i0 (nI i)) hk9 hC hd hN h20 he hi0 (f := 0) (by decide) (hW.figure (by omega)) rfl h0 hK
              have h' : f_X4_isPlaceRow 50 (nI d) (nI i0) 0 (putY w (kset κ 1 i0 (nI i)) Y) = some (zb (tellQ (σ d) κ i0 N 1 0 i), putY w κ Y') := h'
              refine ⟨Y', e', hK', fun k m => ?_⟩
              by_cases hQ : tellQ (σ d) κ i0 N 1 0 i = true
              · rw [if_pos hQ]
                simp only [c_X4_whatIs_52, c_X4_whatIs_65, c_X4_whatIs_88, c_X4_whatIs_110, lt_10 hi, gI_Y0, gR_Y1, gR_Y2, gR_Y3, gR_Y4, gR_Y5, gI_Y6, gR_Y7, gR_Y8, gR_Y9, gR_Y10, gI_Y11, gI_Y12, gR_Y13, gR_Y14, gR_Y15, gR_Y16, gR_Y17, gR_Y18, gI_Y19, gI_Y20, gI_Y21, gI_Y22, gI_Y23, gR_Y24, gR_Y25, gR_Y26, gR_Y27, gR_Y28, gI_Y29, gI_Y30, gI_Y31, gR_Y33, gR_Y34, gI_Y35, gR_Y36, cV_Y, bk_some, bind_some', zb_0, zb_1, zb_or, cc_or, kset_1, kset_21, kint_1, kint_21, kint_22, putY_moved, gA_Y51 w Y hk9 hi0, sA_Y51 w Y hk9 hi0, sA_Y52 w Y hk9 hi0, kset_self, h', hQ, show ¬ (1 : Int32) = 0 by decide, nI_1, if_true, if_false, not_true_eq_false, not_false_eq_true, Bool.false_eq_true, Bool.true_eq_false, reduceIte, ite_true, ite_false]
                rfl
              · rw [if_neg hQ]
                simp only [c_X4_whatIs_52, c_X4_whatIs_65, c_X4_whatIs_88, c_X4_whatIs_110, lt_10 hi, gI_Y0, gR_Y1, gR_Y2, gR_Y3, gR_Y4, gR_Y5, gI_Y6, gR_Y7, gR_Y8, gR_Y9, gR_Y10, gI_Y11, gI_Y12, gR_Y13, gR_Y14, gR_Y15, gR_Y16, gR_Y17, gR_Y18, gI_Y19, gI_Y20, gI_Y21, gI_Y22, gI_Y23, gR_Y24, gR_Y25, gR_Y26, gR_Y27, gR_Y28, gI_Y29, gI_Y30, gI_Y31, gR_Y33, gR_Y34, gI_Y35, gR_Y36, cV_Y, bk_some, bind_some', zb_0, zb_1, zb_or, cc_or, kset_1, kset_21, kint_1, kint_21, kint_22, putY_moved, gA_Y51 w Y hk9 hi0, sA_Y51 w Y hk9 hi0, sA_Y52 w Y hk9 hi0, kset_self, h', Bool.eq_false_iff.mpr hQ, show ¬ (1 : Int32) = 0 by decide, i32_or0, nI_1, if_true, if_false, not_true_eq_false, not_false_eq_true, Bool.false_eq_true, Bool.true_eq_false, reduceIte, ite_true, ite_false]) 10 0 0 Y1 a_fuel rfl (by decide) hs1 (hC'.yk e1) hK
            refine ⟨Y2, ((Yk.thrown Y 0).trans e1).trans e2', ?_⟩
            simp only [h1, h2, h3, h4, h5, e2, ew, m_isBeast, sF_Y19, c_X4_whatIs_32, Int32.le_refl, gI_Y0, gR_Y1, gR_Y2, gR_Y3, gR_Y4, gR_Y5, gI_Y6, gR_Y7, gR_Y8, gR_Y9, gR_Y10, gI_Y11, gI_Y12, gR_Y13, gR_Y14, gR_Y15, gR_Y16, gR_Y17, gR_Y18, gI_Y19, gI_Y20, gI_Y21, gI_Y22, gI_Y23, gR_Y24, gR_Y25, gR_Y26, gR_Y27, gR_Y28, gI_Y29, gI_Y30, gI_Y31, gR_Y33, gR_Y34, gI_Y35, gR_Y36, cV_Y, bk_some, bind_some', zb_0, zb_1, zb_or, cc_or, kset_1, kset_21, kint_1, kint_21, kint_22, putY_moved, ht, ix7 hd, ix_nI (show i0 < 2 ^ 31 by omega), sz_of hN he, if_true, if_false, not_true_eq_false, not_false_eq_true, Bool.false_eq_true, Bool.true_eq_false, reduceIte, ite_true, ite_false]
            exact hl
        · simp only [h1, h2, h3, h4, e2, ew, m_isBeast, sF_Y19, wrong_32 _ _ _ _ _ (nle0 (rowR_neg h4)), gI_Y0, gR_Y1, gR_Y2, gR_Y3, gR_Y4, gR_Y5, gI_Y6, gR_Y7, gR_Y8, gR_Y9, gR_Y10, gI_Y11, gI_Y12, gR_Y13, gR_Y14, gR_Y15, gR_Y16, gR_Y17, gR_Y18, gI_Y19, gI_Y20, gI_Y21, gI_Y22, gI_Y23, gR_Y24, gR_Y25, gR_Y26, gR_Y27, gR_Y28, gI_Y29, gI_Y30, gI_Y31, gR_Y33, gR_Y34, gI_Y35, gR_Y36, cV_Y, bk_some, bind_some', zb_0, zb_1, zb_or, cc_or, kset_1, kset_21, kint_1, kint_21, kint_22, putY_moved, ix7 hd, if_true, if_false, not_true_eq_false, not_false_eq_true, Bool.false_eq_true, Bool.true_eq_false, reduceIte, ite_true, ite_false]
          exact hno _
      · have h1 := Bool.eq_false_iff.mpr h1
        have er : refR σ x = -1 := by unfold refR; rw [if_neg (by rw [h1]; decide)]
        rw [er] at ew
        simp only [h1, h2, h3, e2, ew, m_isBeast, sF_Y19, wrong_32 _ _ _ _ _ m1_nle, gI_Y0, gR_Y1, gR_Y2, gR_Y3, gR_Y4, gR_Y5, gI_Y6, gR_Y7, gR_Y8, gR_Y9, gR_Y10, gI_Y11, gI_Y12, gR_Y13, gR_Y14, gR_Y15, gR_Y16, gR_Y17, gR_Y18, gI_Y19, gI_Y20, gI_Y21, gI_Y22, gI_Y23, gR_Y24, gR_Y25, gR_Y26, gR_Y27, gR_Y28, gI_Y29, gI_Y30, gI_Y31, gR_Y33, gR_Y34, gI_Y35, gR_Y36, cV_Y, bk_some, bind_some', zb_0, zb_1, zb_or, cc_or, kset_1, kset_21, kint_1, kint_21, kint_22, putY_moved, if_true, if_false, not_true_eq_false, not_false_eq_true, Bool.false_eq_true, Bool.true_eq_false, reduceIte, ite_true, ite_false]
        exact hno _
    · have h3 := Bool.eq_false_iff.mpr h3
      simp only [h2, h3, e2, m_isBeast, sF_Y19, wrong_32 _ _ _ _ _ m1_nle, gI_Y0, gR_Y1, gR_Y2, gR_Y3, gR_Y4, gR_Y5, gI_Y6, gR_Y7, gR_Y8, gR_Y9, gR_Y10, gI_Y11, gI_Y12, gR_Y13, gR_Y14, gR_Y15, gR_Y16, gR_Y17, gR_Y18, gI_Y19, gI_Y20, gI_Y21, gI_Y22, gI_Y23, gR_Y24, gR_Y25, gR_Y26, gR_Y27, gR_Y28, gI_Y29, gI_Y30, gI_Y31, gR_Y33, gR_Y34, gI_Y35, gR_Y36, cV_Y, bk_some, bind_some', zb_0, zb_1, zb_or, cc_or, kset_1, kset_21, kint_1, kint_21, kint_22, putY_moved, if_true, if_false, not_true_eq_false, not_false_eq_true, Bool.false_eq_true, Bool.true_eq_false, reduceIte, ite_true, ite_false]
      by_cases h1 : inR x 0 7 = true
      · rw [if_pos h1]; exact hno _
      · rw [if_neg h1]; exact hno _
  · have h2 := Bool.eq_false_iff.mpr h2
    simp only [h2, m_isBeast, sF_Y19, wrong_32 _ _ _ _ _ m1_nle, gI_Y0, gR_Y1, gR_Y2, gR_Y3, gR_Y4, gR_Y5, gI_Y6, gR_Y7, gR_Y8, gR_Y9, gR_Y10, gI_Y11, gI_Y12, gR_Y13, gR_Y14, gR_Y15, gR_Y16, gR_Y17, gR_Y18, gI_Y19, gI_Y20, gI_Y21, gI_Y22, gI_Y23, gR_Y24, gR_Y25, gR_Y26, gR_Y27, gR_Y28, gI_Y29, gI_Y30, gI_Y31, gR_Y33, gR_Y34, gI_Y35, gR_Y36, cV_Y, bk_some, bind_some', zb_0, zb_1, zb_or, cc_or, kset_1, kset_21, kint_1, kint_21, kint_22, putY_moved, if_true, if_false, not_true_eq_false, not_false_eq_true, Bool.false_eq_true, Bool.true_eq_false, reduceIte, ite_true, ite_false]
    by_cases h1 : inR x 0 7 = true
    · rw [if_pos h1]; exact hno _
    · rw [if_neg h1]; exact hno _
/-! where from, whose -/
def livR (x b : Int32) (κ : aK) (σ : Nat → aS) : Int32 := if inR x 0 7 = true then (if inR b 0 (nI κ.1 - 1) = true then (if bitB (κ.2.1 1) b = true then rowR (σ (ix x)) else -3) else -1) else -1
theorem x_living (w : aW) (X : aX) (x b : Int32) : f_X3_livingAndRowRefusal 0 x b (putX w X) = some (livR x b X.1 X.2.2.2.2.1, putX w X) := by
  unfold f_X3_livingAndRowRefusal livR
  by_cases h1 : inR x 0 7 = true
  · obtain ⟨d, hd, rfl⟩ := in7 h1
    by_cases h2 : inR b 0 (nI X.1.1 - 1) = true
    · by_cases h3 : bitB (X.1.2.1 1) b = true
      · simp only [h1, h2, h3, gR_X0, gR_X1, gR_X2, gI_X3, gR_X4, gR_X5, gR_X6, cV_X, x_think, xmind_1, xmind_0, xmind_2, xnow_0, xnow_1, xnow_2, bk_some, bind_some', zb_0, zb_1, zb_or, cc_or, N_cV, N_gI0, N_gI1, N_gI2, N_gI3, N_gR4, N_gR5, N_gR6, N_gR7, N_gR8, N_gR9, N_gR10, N_gR11, N_gR12, N_hasBeast, N_isAlive, N_calledBy, N_calledByAnybody, N_needTogether, N_workTogether, N_freeOnes, x_shelfAt w X hd, oc_some, S_cV w X hd, S_rowRefusal w X hd, ix7 hd, if_true, if_false, not_true_eq_false, not_false_eq_true, Bool.false_eq_true, Bool.true_eq_false, reduceIte, ite_true, ite_false]
      · have h3 := Bool.eq_false_iff.mpr h3
        simp only [h1, h2, h3, gR_X0, gR_X1, gR_X2, gI_X3, gR_X4, gR_X5, gR_X6, cV_X, x_think, xmind_1, xmind_0, xmind_2, xnow_0, xnow_1, xnow_2, bk_some, bind_some', zb_0, zb_1, zb_or, cc_or, N_cV, N_gI0, N_gI1, N_gI2, N_gI3, N_gR4, N_gR5, N_gR6, N_gR7, N_gR8, N_gR9, N_gR10, N_gR11, N_gR12, N_hasBeast, N_isAlive, N_calledBy, N_calledByAnybody, N_needTogether, N_workTogether, N_freeOnes, x_shelfAt w X hd, oc_some, if_true, if_false, not_true_eq_false, not_false_eq_true, Bool.false_eq_true, Bool.true_eq_false, reduceIte, ite_true, ite_false]
    · have h2 := Bool.eq_false_iff.mpr h2
      simp only [h1, h2, gR_X0, gR_X1, gR_X2, gI_X3, gR_X4, gR_X5, gR_X6, cV_X, x_think, xmind_1, xmind_0, xmind_2, xnow_0, xnow_1, xnow_2, bk_some, bind_some', zb_0, zb_1, zb_or, cc_or, N_cV, N_gI0, N_gI1, N_gI2, N_gI3, N_gR4, N_gR5, N_gR6, N_gR7, N_gR8, N_gR9, N_gR10, N_gR11, N_gR12, N_hasBeast, N_isAlive, N_calledBy, N_calledByAnybody, N_needTogether, N_workTogether, N_freeOnes, x_shelfAt w X hd, oc_some, if_true, if_false, not_true_eq_false, not_false_eq_true, Bool.false_eq_true, Bool.true_eq_false, reduceIte, ite_true, ite_false]
  · have h1 := Bool.eq_false_iff.mpr h1
    simp only [h1, gR_X0, gR_X1, gR_X2, gI_X3, gR_X4, gR_X5, gR_X6, cV_X, x_think, xmind_1, xmind_0, xmind_2, xnow_0, xnow_1, xnow_2, bk_some, bind_some', zb_0, zb_1, zb_or, cc_or, x_shelfNo w X h1, oc_none, if_true, if_false, not_true_eq_false, not_false_eq_true, Bool.false_eq_true, Bool.true_eq_false, reduceIte, ite_true, ite_false]
theorem m_living (w : aW) (κ : aK) {Y : aY} {σ : Nat → aS} (hC : Cp σ Y) (x b : Int32) : f_X4_wrongLiving 50 x b (putY w κ Y) = some (livR x b κ σ, putY w κ Y) := by
  have ew := m_wrongRow w κ hC x
  have e1 := p_in32 (x := x) (a := 0) (b := 7) (a' := 0) (b' := 7) rfl rfl
  unfold f_X4_wrongLiving livR
  by_cases h1 : inR x 0 7 = true
  · have er : refR σ x = rowR (σ (ix x)) := by unfold refR; rw [if_pos h1]
    rw [er] at ew
    by_cases h2 : inR b 0 (nI κ.1 - 1) = true
    · by_cases h3 : bitB (κ.2.1 1) b = true
      · simp only [h1, h2, h3, e1, ew, m_isBeast, p_hasBit, gI_Y0, gR_Y1, gR_Y2, gR_Y3, gR_Y4, gR_Y5, gI_Y6, gR_Y7, gR_Y8, gR_Y9, gR_Y10, gI_Y11, gI_Y12, gR_Y13, gR_Y14, gR_Y15, gR_Y16, gR_Y17, gR_Y18, gI_Y19, gI_Y20, gI_Y21, gI_Y22, gI_Y23, gR_Y24, gR_Y25, gR_Y26, gR_Y27, gR_Y28, gI_Y29, gI_Y30, gI_Y31, gR_Y33, gR_Y34, gI_Y35, gR_Y36, cV_Y, bk_some, bind_some', zb_0, zb_1, zb_or, cc_or, kset_1, kset_21, kint_1, kint_21, kint_22, putY_moved, if_true, if_false, not_true_eq_false, not_false_eq_true, Bool.false_eq_true, Bool.true_eq_false, reduceIte, ite_true, ite_false]
      · have h3 := Bool.eq_false_iff.mpr h3
        simp only [h1, h2, h3, e1, m_isBeast, p_hasBit, gI_Y0, gR_Y1, gR_Y2, gR_Y3, gR_Y4, gR_Y5, gI_Y6, gR_Y7, gR_Y8, gR_Y9, gR_Y10, gI_Y11, gI_Y12, gR_Y13, gR_Y14, gR_Y15, gR_Y16, gR_Y17, gR_Y18, gI_Y19, gI_Y20, gI_Y21, gI_Y22, gI_Y23, gR_Y24, gR_Y25, gR_Y26, gR_Y27, gR_Y28, gI_Y29, gI_Y30, gI_Y31, gR_Y33, gR_Y34, gI_Y35, gR_Y36, cV_Y, bk_some, bind_some', zb_0, zb_1, zb_or, cc_or, kset_1, kset_21, kint_1, kint_21, kint_22, putY_moved, if_true, if_false, not_true_eq_false, not_false_eq_true, Bool.false_eq_true, Bool.true_eq_false, reduceIte, ite_true, ite_false]
    · have h2 := Bool.eq_false_iff.mpr h2
      simp only [h1, h2, m_isBeast, gI_Y0, gR_Y1, gR_Y2, gR_Y3, gR_Y4, gR_Y5, gI_Y6, gR_Y7, gR_Y8, gR_Y9, gR_Y10, gI_Y11, gI_Y12, gR_Y13, gR_Y14, gR_Y15, gR_Y16, gR_Y17, gR_Y18, gI_Y19, gI_Y20, gI_Y21, gI_Y22, gI_Y23, gR_Y24, gR_Y25, gR_Y26, gR_Y27, gR_Y28, gI_Y29, gI_Y30, gI_Y31, gR_Y33, gR_Y34, gI_Y35, gR_Y36, cV_Y, bk_some, bind_some', zb_0, zb_1, zb_or, cc_or, kset_1, kset_21, kint_1, kint_21, kint_22, putY_moved, if_true, if_false, not_true_eq_false, not_false_eq_true, Bool.false_eq_true, Bool.true_eq_false, reduceIte, ite_true, ite_false]
  · have h1 := Bool.eq_false_iff.mpr h1
    by_cases h2 : inR b 0 (nI κ.1 - 1) = true
    · simp only [h1, h2, e1, m_isBeast, gI_Y0, gR_Y1, gR_Y2, gR_Y3, gR_Y4, gR_Y5, gI_Y6, gR_Y7, gR_Y8, gR_Y9, gR_Y10, gI_Y11, gI_Y12, gR_Y13, gR_Y14, gR_Y15, gR_Y16, gR_Y17, gR_Y18, gI_Y19, gI_Y20, gI_Y21, gI_Y22, gI_Y23, gR_Y24, gR_Y25, gR_Y26, gR_Y27, gR_Y28, gI_Y29, gI_Y30, gI_Y31, gR_Y33, gR_Y34, gI_Y35, gR_Y36, cV_Y, bk_some, bind_some', zb_0, zb_1, zb_or, cc_or, kset_1, kset_21, kint_1, kint_21, kint_22, putY_moved, if_true, if_false, not_true_eq_false, not_false_eq_true, Bool.false_eq_true, Bool.true_eq_false, reduceIte, ite_true, ite_false]
    · have h2 := Bool.eq_false_iff.mpr h2
      simp only [h1, h2, m_isBeast, gI_Y0, gR_Y1, gR_Y2, gR_Y3, gR_Y4, gR_Y5, gI_Y6, gR_Y7, gR_Y8, gR_Y9, gR_Y10, gI_Y11, gI_Y12, gR_Y13, gR_Y14, gR_Y15, gR_Y16, gR_Y17, gR_Y18, gI_Y19, gI_Y20, gI_Y21, gI_Y22, gI_Y23, gR_Y24, gR_Y25, gR_Y26, gR_Y27, gR_Y28, gI_Y29, gI_Y30, gI_Y31, gR_Y33, gR_Y34, gI_Y35, gR_Y36, cV_Y, bk_some, bind_some', zb_0, zb_1, zb_or, cc_or, kset_1, kset_21, kint_1, kint_21, kint_22, putY_moved, if_true, if_false, not_true_eq_false, not_false_eq_true, Bool.false_eq_true, Bool.true_eq_false, reduceIte, ite_true, ite_false]
theorem liv_0 {x b : Int32} {κ : aK} {σ : Nat → aS} (h : livR x b κ σ = 0) : inR x 0 7 = true ∧ inR b 0 (nI κ.1 - 1) = true ∧ bitB (κ.2.1 1) b = true ∧ rowR (σ (ix x)) = 0 := by
  unfold livR at h
  by_cases h1 : inR x 0 7 = true
  · rw [if_pos h1] at h
    by_cases h2 : inR b 0 (nI κ.1 - 1) = true
    · rw [if_pos h2] at h
      by_cases h3 : bitB (κ.2.1 1) b = true
      · rw [if_pos h3] at h
        exact ⟨h1, h2, h3, h⟩
      · rw [if_neg h3] at h; exact absurd h (by decide)
    · rw [if_neg h2] at h; exact absurd h (by decide)
  · rw [if_neg h1] at h; exact absurd h (by decide)
theorem liv_neg {x b : Int32} {κ : aK} {σ : Nat → aS} (h : ¬ livR x b κ σ = 0) : livR x b κ σ < 0 := by
  unfold livR at h ⊢
  by_cases h1 : inR x 0 7 = true
  · rw [if_pos h1] at h ⊢
    by_cases h2 : inR b 0 (nI κ.1 - 1) = true
    · rw [if_pos h2] at h ⊢
      by_cases h3 : bitB (κ.2.1 1) b = true
      · rw [if_pos h3] at h ⊢
        exact rowR_neg h
      · rw [if_neg h3]; decide
    · rw [if_neg h2]; decide
  · rw [if_neg h1]; decide
theorem x_shelfAny (w : aW) (X : aX) (x : Int32) : ∃ o, f_X3_shelfAt 0 x (putX w X) = some (o, putX w X) := by
  by_cases h1 : inR x 0 7 = true
  · obtain ⟨d, hd, rfl⟩ := in7 h1
    exact ⟨_, x_shelfAt w X hd⟩
  · exact ⟨_, x_shelfNo w X (Bool.eq_false_iff.mpr h1)⟩
def fromK (x b : Int32) (κ : aK) (σ : Nat → aS) : Int32 := if livR x b κ σ = 0 then mskK (tellQ (σ (ix x)) κ (ix b) (szN (σ (ix x))) 2 1) 16 else livR x b κ σ
theorem x_whereFrom (w : aW) {X : aX} (hW : WF X.1) (hS : ∀ d, d < 8 → WFs (X.2.2.2.2.1 d)) (x b : Int32) : ∃ μ, f_X3_whereFrom 0 x b (putX w X) = some (fromK x b X.1 X.2.2.2.2.1, putX w (xmind X μ)) := by
  unfold f_X3_whereFrom fromK
  by_cases h0 : livR x b X.1 X.2.2.2.2.1 = 0
  · obtain ⟨h1, h2, h3, h4⟩ := liv_0 h0
    obtain ⟨d, hd, rfl⟩ := in7 h1
    obtain ⟨i0, hi0, rfl⟩ := inB hW.1 h2
    have hi9 : i0 < 9 := by have := hW.1; omega
    obtain ⟨N, hN, he⟩ := (hS d hd).2.1
    obtain ⟨μ, hμ⟩ := bitsX4 w X (34 + 2 * d) (c_X3_whereFrom_31 0 (nI d) (nI i0)) 16 (tellQ (X.2.2.2.2.1 d) X.1 i0 N 2 1) (fun k m μ => by simp only [c_X3_whereFrom_31, show (16 : Int32) ≤ nI 16 by decide, if_true, if_false, not_true_eq_false, not_false_eq_true, Bool.false_eq_true, Bool.true_eq_false, reduceIte, ite_true, ite_false]) (fun i μ hi => by
      have hWk : WF (kset X.1 2 i0 (nI i)) := hW.place (by omega)
      obtain ⟨μ1, h1⟩ := x_fits w X hd (hS d hd) hN he hi9 (k := 2) (by decide) (κ := passK 0 (kset X.1 2 i0 (nI i))) (pass_WF hWk (m := 0) (by decide))
      have h1 : f_X3_fits 0 (34 + 2 * d) (nI i0) 2 (putX w (xmind X (passK 0 (kset X.1 2 i0 (nI i))))) = some (zb (tellQ (X.2.2.2.2.1 d) X.1 i0 N 2 1 i), putX w (xmind X μ1)) := h1
      have hs := T_sA w (xmind X X.1) 2 (by decide) (i := i0) hi9 (nI i)
      simp only [Nat.reduceAdd] at hs
      refine ⟨μ1, fun k m => ?_⟩
      by_cases hQ : tellQ (X.2.2.2.2.1 d) X.1 i0 N 2 1 i = true
      · rw [if_pos hQ]
        simp only [c_X3_whereFrom_31, lt_16 hi, gR_X0, gR_X1, gR_X2, gI_X3, gR_X4, gR_X5, gR_X6, cV_X, x_think, xmind_1, xmind_0, xmind_2, xnow_0, xnow_1, xnow_2, bk_some, bind_some', zb_0, zb_1, zb_or, cc_or, T_cV, T_gI0, T_gI1, T_gI2, T_gI3, T_gR4, T_gR5, T_gR6, T_gR7, T_gR8, T_gR9, T_gR10, T_gR11, T_gR12, T_hasBeast, T_isAlive, T_calledBy, T_calledByAnybody, T_needTogether, T_workTogether, T_freeOnes, hs, T_passDay w (X := xmind X (kset X.1 2 i0 (nI i))) hWk, h1, hQ, nI_1, if_true, if_false, not_true_eq_false, not_false_eq_true, Bool.false_eq_true, Bool.true_eq_false, reduceIte, ite_true, ite_false]
        rfl
      · rw [if_neg hQ]
        simp only [c_X3_whereFrom_31, lt_16 hi, gR_X0, gR_X1, gR_X2, gI_X3, gR_X4, gR_X5, gR_X6, cV_X, x_think, xmind_1, xmind_0, xmind_2, xnow_0, xnow_1, xnow_2, bk_some, bind_some', zb_0, zb_1, zb_or, cc_or, T_cV, T_gI0, T_gI1, T_gI2, T_gI3, T_gR4, T_gR5, T_gR6, T_gR7, T_gR8, T_gR9, T_gR10, T_gR11, T_gR12, T_hasBeast, T_isAlive, T_calledBy, T_calledByAnybody, T_needTogether, T_workTogether, T_freeOnes, hs, T_passDay w (X := xmind X (kset X.1 2 i0 (nI i))) hWk, h1, Bool.eq_false_iff.mpr hQ, nI_1, if_true, if_false, not_true_eq_false, not_false_eq_true, Bool.false_eq_true, Bool.true_eq_false, reduceIte, ite_true, ite_false]) 16 0 0 X.2.1 a_fuel rfl (by decide)
    refine ⟨μ, ?_⟩
    simp only [x_living, h0, gR_X0, gR_X1, gR_X2, gI_X3, gR_X4, gR_X5, gR_X6, cV_X, x_think, xmind_1, xmind_0, xmind_2, xnow_0, xnow_1, xnow_2, bk_some, bind_some', zb_0, zb_1, zb_or, cc_or, x_shelfAt w X hd, oc_some, ix7 hd, ix_nI (show i0 < 2 ^ 31 by omega), sz_of hN he, if_true, if_false, not_true_eq_false, not_false_eq_true, Bool.false_eq_true, Bool.true_eq_false, reduceIte, ite_true, ite_false]
    exact hμ
  · obtain ⟨o, ho⟩ := x_shelfAny w X x
    refine ⟨X.2.1, ?_⟩
    simp only [x_living, h0, gR_X0, gR_X1, gR_X2, gI_X3, gR_X4, gR_X5, gR_X6, cV_X, x_think, xmind_1, xmind_0, xmind_2, xnow_0, xnow_1, xnow_2, bk_some, bind_some', zb_0, zb_1, zb_or, cc_or, ho, if_true, if_false, not_true_eq_false, not_false_eq_true, Bool.false_eq_true, Bool.true_eq_false, reduceIte, ite_true, ite_false]
    cases o <;> rfl
theorem m_whereFrom (w : aW) {Y : aY} {κ : aK} {σ : Nat → aS} (hC : Cp σ Y) (hW : WF κ) (hs : Y.1 0 = 0) (x b : Int32) : ∃ Y', Yk Y Y' ∧ f_X4_whereFrom 50 x b (putY w κ Y) = some (fromK x b κ σ, putY w κ Y') := by
  have hk9 := hW.1
  have hC' := hC.thr 0
  unfold f_X4_whereFrom fromK
  by_cases h0 : livR x b κ σ = 0
  · obtain ⟨h1, h2, h3, h4⟩ := liv_0 h0
    obtain ⟨d, hd, rfl⟩ := in7 h1
    obtain ⟨i0, hi0, rfl⟩ := inB hk9 h2
    rw [ix7 hd] at h4
    have h20 := rowR_2 h4
    obtain ⟨N, hN, he⟩ := (hC' d hd).1.2.1
    obtain ⟨Y1, e1, hK, ht⟩ := k_think w (yint Y 1 0) hk9
    have hs1 : Y1.1 0 = 0 := e1.1.1.trans hs
    obtain ⟨Y2, e2', hl⟩ := bitsY3 w κ σ (c_X4_whereFrom_28 50 (nI d) (nI i0)) 16 (tellQ (σ d) κ i0 N 2 1) (fun k m Y => by simp only [c_X4_whereFrom_28, show (16 : Int32) ≤ nI 16 by decide, if_true, if_false, not_true_eq_false, not_false_eq_true, Bool.false_eq_true, Bool.true_eq_false, reduceIte, ite_true, ite_false]) (fun i Y hi h0 hC hK => by
      obtain ⟨Y', e', hK', h'⟩ := m_placeRow w (κ0 := κ) (κ := kset κ 2 i0 (nI i)) hk9 hC hd hN h20 he hi0 (f := 1) (by decide) (hW.place (by omega)) rfl h0 hK
      have h' : f_X4_isPlaceRow 50 (nI d) (nI i0) 1 (putY w (kset κ 2 i0 (nI i)) Y) = some (zb (tellQ (σ d) κ i0 N 2 1 i), putY w κ Y') := h'
      refine ⟨Y', e', hK', fun k m => ?_⟩
      by_cases hQ : tellQ (σ d) κ i0 N 2 1 i = true
      · rw [if_pos hQ]
        simp only [c_X4_whereFrom_28, lt_16 hi, gI_Y0, gR_Y1, gR_Y2, gR_Y3, gR_Y4, gR_Y5, gI_Y6, gR_Y7, gR_Y8, gR_Y9, gR_Y10, gI_Y11, gI_Y12, gR_Y13, gR_Y14, gR_Y15, gR_Y16, gR_Y17, gR_Y18, gI_Y19, gI_Y20, gI_Y21, gI_Y22, gI_Y23, gR_Y24, gR_Y25, gR_Y26, gR_Y27, gR_Y28, gI_Y29, gI_Y30, gI_Y31, gR_Y33, gR_Y34, gI_Y35, gR_Y36, cV_Y, bk_some, bind_some', zb_0, zb_1, zb_or, cc_or, kset_1, kset_21, kint_1, kint_21, kint_22, putY_moved, sA_Y53 w Y hk9 hi0, h', hQ, nI_1, if_true, if_false, not_true_eq_false, not_false_eq_true, Bool.false_eq_true, Bool.true_eq_false, reduceIte, ite_true, ite_false]
        rfl
      · rw [if_neg hQ]
        simp only [c_X4_whereFrom_28, lt_16 hi, gI_Y0, gR_Y1, gR_Y2, gR_Y3, gR_Y4, gR_Y5, gI_Y6, gR_Y7, gR_Y8, gR_Y9, gR_Y10, gI_Y11, gI_Y12, gR_Y13, gR_Y14, gR_Y15, gR_Y16, gR_Y17, gR_Y18, gI_Y19, gI_Y20, gI_Y21, gI_Y22, gI_Y23, gR_Y24, gR_Y25, gR_Y26, gR_Y27, gR_Y28, gI_Y29, gI_Y30, gI_Y31, gR_Y33, gR_Y34, gI_Y35, gR_Y36, cV_Y, bk_some, bind_some', zb_0, zb_1, zb_or, cc_or, kset_1, kset_21, kint_1, kint_21, kint_22, putY_moved, sA_Y53 w Y hk9 hi0, h', Bool.eq_false_iff.mpr hQ, i32_or0, nI_1, if_true, if_false, not_true_eq_false, not_false_eq_true, Bool.false_eq_true, Bool.true_eq_false, reduceIte, ite_true, ite_false]) 16 0 0 Y1 a_fuel rfl (by decide) hs1 (hC'.yk e1) hK
    refine ⟨Y2, ((Yk.thrown Y 0).trans e1).trans e2', ?_⟩
    simp only [h0, m_living w κ hC', sF_Y19, Int32.le_refl, gI_Y0, gR_Y1, gR_Y2, gR_Y3, gR_Y4, gR_Y5, gI_Y6, gR_Y7, gR_Y8, gR_Y9, gR_Y10, gI_Y11, gI_Y12, gR_Y13, gR_Y14, gR_Y15, gR_Y16, gR_Y17, gR_Y18, gI_Y19, gI_Y20, gI_Y21, gI_Y22, gI_Y23, gR_Y24, gR_Y25, gR_Y26, gR_Y27, gR_Y28, gI_Y29, gI_Y30, gI_Y31, gR_Y33, gR_Y34, gI_Y35, gR_Y36, cV_Y, bk_some, bind_some', zb_0, zb_1, zb_or, cc_or, kset_1, kset_21, kint_1, kint_21, kint_22, putY_moved, ht, ix7 hd, ix_nI (show i0 < 2 ^ 31 by omega), sz_of hN he, if_true, if_false, not_true_eq_false, not_false_eq_true, Bool.false_eq_true, Bool.true_eq_false, reduceIte, ite_true, ite_false]
    exact hl
  · refine ⟨yint Y 1 0, Yk.thrown Y 0, ?_⟩
    simp only [h0, m_living w κ hC', sF_Y19, nle0 (liv_neg h0), gI_Y0, gR_Y1, gR_Y2, gR_Y3, gR_Y4, gR_Y5, gI_Y6, gR_Y7, gR_Y8, gR_Y9, gR_Y10, gI_Y11, gI_Y12, gR_Y13, gR_Y14, gR_Y15, gR_Y16, gR_Y17, gR_Y18, gI_Y19, gI_Y20, gI_Y21, gI_Y22, gI_Y23, gR_Y24, gR_Y25, gR_Y26, gR_Y27, gR_Y28, gI_Y29, gI_Y30, gI_Y31, gR_Y33, gR_Y34, gI_Y35, gR_Y36, cV_Y, bk_some, bind_some', zb_0, zb_1, zb_or, cc_or, kset_1, kset_21, kint_1, kint_21, kint_22, putY_moved, if_true, if_false, not_true_eq_false, not_false_eq_true, Bool.false_eq_true, Bool.true_eq_false, reduceIte, ite_true, ite_false]
def whoseK (x b : Int32) (κ : aK) (σ : Nat → aS) : Int32 := if livR x b κ σ = 0 then mskK (whoQ (σ (ix x)) κ (ix b) (szN (σ (ix x)))) 6 else livR x b κ σ
theorem who_5 : ∀ i, i < 6 → ((nI i = 5) = (i = 5)) := fun i hi => propext (nI_eq (by omega) (by decide))
theorem who_WF {κ : aK} (hW : WF κ) {b i : Nat} (hb : b < κ.1) (hi : i < 6) : WF (kset κ 4 b (whoI i)) := by
  unfold whoI
  split
  · exact hW.caller (Or.inl rfl)
  · exact hW.caller (Or.inr ⟨hb, i, by omega, rfl⟩)
theorem x_whose (w : aW) {X : aX} (hW : WF X.1) (hS : ∀ d, d < 8 → WFs (X.2.2.2.2.1 d)) (x b : Int32) : ∃ μ, f_X3_whose 0 x b (putX w X) = some (whoseK x b X.1 X.2.2.2.2.1, putX w (xmind X μ)) := by
  unfold f_X3_whose whoseK
  by_cases h0 : livR x b X.1 X.2.2.2.2.1 = 0
  · obtain ⟨h1, h2, h3, h4⟩ := liv_0 h0
    obtain ⟨d, hd, rfl⟩ := in7 h1
    obtain ⟨i0, hi0, rfl⟩ := inB hW.1 h2
    have hi9 : i0 < 9 := by have := hW.1; omega
    obtain ⟨N, hN, he⟩ := (hS d hd).2.1
    obtain ⟨μ, hμ⟩ := bitsX4 w X (34 + 2 * d) (c_X3_whose_31 0 (nI d) (nI i0)) 6 (whoQ (X.2.2.2.2.1 d) X.1 i0 N) (fun k m μ => by simp only [c_X3_whose_31, show (5 : Int32) < nI 6 by decide, if_true, if_false, not_true_eq_false, not_false_eq_true, Bool.false_eq_true, Bool.true_eq_false, reduceIte, ite_true, ite_false]) (fun i μ hi => by
      have hWk := who_WF hW hi0 hi
      have hlt : ¬ (5 : Int32) < nI i := fun z => by
        have := (nI_ltI (a := 5) (b := i) (by decide) (by omega)).mp z
        omega
      obtain ⟨μ1, h1⟩ := x_fits w X hd (hS d hd) hN he hi9 (k := 3) (by decide) (κ := kset X.1 4 i0 (whoI i)) hWk
      have h1 : f_X3_fits 0 (34 + 2 * d) (nI i0) 3 (putX w (xmind X (kset X.1 4 i0 (whoI i)))) = some (zb (whoQ (X.2.2.2.2.1 d) X.1 i0 N i), putX w (xmind X μ1)) := h1
      have hs := T_sA w (xmind X X.1) 4 (by decide) (i := i0) hi9 (whoI i)
      simp only [Nat.reduceAdd] at hs
      refine ⟨μ1, fun k m => ?_⟩
      unfold whoI at h1 hs
      by_cases hQ : whoQ (X.2.2.2.2.1 d) X.1 i0 N i = true
      · rw [if_pos hQ]
        by_cases h5 : i = 5
        · simp only [h5, if_true] at h1 hs hQ hlt
          simp only [c_X3_whose_31, c_X3_whose_62, h5, hlt, show nI 5 = 5 from rfl, show ¬ (5 : Int32) < 5 by decide, gR_X0, gR_X1, gR_X2, gI_X3, gR_X4, gR_X5, gR_X6, cV_X, x_think, xmind_1, xmind_0, xmind_2, xnow_0, xnow_1, xnow_2, bk_some, bind_some', zb_0, zb_1, zb_or, cc_or, T_cV, T_gI0, T_gI1, T_gI2, T_gI3, T_gR4, T_gR5, T_gR6, T_gR7, T_gR8, T_gR9, T_gR10, T_gR11, T_gR12, T_hasBeast, T_isAlive, T_calledBy, T_calledByAnybody, T_needTogether, T_workTogether, T_freeOnes, hs, h1, hQ, nI_1, if_true, if_false, not_true_eq_false, not_false_eq_true, Bool.false_eq_true, Bool.true_eq_false, reduceIte, ite_true, ite_false]
          rfl
        · simp only [h5, if_false] at h1 hs
          simp only [c_X3_whose_31, c_X3_whose_62, hlt, who_5 i hi, h5, gR_X0, gR_X1, gR_X2, gI_X3, gR_X4, gR_X5, gR_X6, cV_X, x_think, xmind_1, xmind_0, xmind_2, xnow_0, xnow_1, xnow_2, bk_some, bind_some', zb_0, zb_1, zb_or, cc_or, T_cV, T_gI0, T_gI1, T_gI2, T_gI3, T_gR4, T_gR5, T_gR6, T_gR7, T_gR8, T_gR9, T_gR10, T_gR11, T_gR12, T_hasBeast, T_isAlive, T_calledBy, T_calledByAnybody, T_needTogether, T_workTogether, T_freeOnes, hs, h1, hQ, nI_1, if_true, if_false, not_true_eq_false, not_false_eq_true, Bool.false_eq_true, Bool.true_eq_false, reduceIte, ite_true, ite_false]
          rfl
      · rw [if_neg hQ]
        have hQ := Bool.eq_false_iff.mpr hQ
        by_cases h5 : i = 5
        · simp only [h5, if_true] at h1 hs hQ hlt
          simp only [c_X3_whose_31, c_X3_whose_62, h5, hlt, show nI 5 = 5 from rfl, show ¬ (5 : Int32) < 5 by decide, gR_X0, gR_X1, gR_X2, gI_X3, gR_X4, gR_X5, gR_X6, cV_X, x_think, xmind_1, xmind_0, xmind_2, xnow_0, xnow_1, xnow_2, bk_some, bind_some', zb_0, zb_1, zb_or, cc_or, T_cV, T_gI0, T_gI1, T_gI2, T_gI3, T_gR4, T_gR5, T_gR6, T_gR7, T_gR8, T_gR9, T_gR10, T_gR11, T_gR12, T_hasBeast, T_isAlive, T_calledBy, T_calledByAnybody, T_needTogether, T_workTogether, T_freeOnes, hs, h1, hQ, nI_1, if_true, if_false, not_true_eq_false, not_false_eq_true, Bool.false_eq_true, Bool.true_eq_false, reduceIte, ite_true, ite_false]
          rfl
        · simp only [h5, if_false] at h1 hs
          simp only [c_X3_whose_31, c_X3_whose_62, hlt, who_5 i hi, h5, gR_X0, gR_X1, gR_X2, gI_X3, gR_X4, gR_X5, gR_X6, cV_X, x_think, xmind_1, xmind_0, xmind_2, xnow_0, xnow_1, xnow_2, bk_some, bind_some', zb_0, zb_1, zb_or, cc_or, T_cV, T_gI0, T_gI1, T_gI2, T_gI3, T_gR4, T_gR5, T_gR6, T_gR7, T_gR8, T_gR9, T_gR10, T_gR11, T_gR12, T_hasBeast, T_isAlive, T_calledBy, T_calledByAnybody, T_needTogether, T_workTogether, T_freeOnes, hs, h1, hQ, nI_1, if_true, if_false, not_true_eq_false, not_false_eq_true, Bool.false_eq_true, Bool.true_eq_false, reduceIte, ite_true, ite_false]) 6 0 0 X.2.1 a_fuel rfl (by decide)
    refine ⟨μ, ?_⟩
    simp only [x_living, h0, gR_X0, gR_X1, gR_X2, gI_X3, gR_X4, gR_X5, gR_X6, cV_X, x_think, xmind_1, xmind_0, xmind_2, xnow_0, xnow_1, xnow_2, bk_some, bind_some', zb_0, zb_1, zb_or, cc_or, x_shelfAt w X hd, oc_some, ix7 hd, ix_nI (show i0 < 2 ^ 31 by omega), sz_of hN he, if_true, if_false, not_true_eq_false, not_false_eq_true, Bool.false_eq_true, Bool.true_eq_false, reduceIte, ite_true, ite_false]
    exact hμ
  · obtain ⟨o, ho⟩ := x_shelfAny w X x
    refine ⟨X.2.1, ?_⟩
    simp only [x_living, h0, gR_X0, gR_X1, gR_X2, gI_X3, gR_X4, gR_X5, gR_X6, cV_X, x_think, xmind_1, xmind_0, xmind_2, xnow_0, xnow_1, xnow_2, bk_some, bind_some', zb_0, zb_1, zb_or, cc_or, ho, if_true, if_false, not_true_eq_false, not_false_eq_true, Bool.false_eq_true, Bool.true_eq_false, reduceIte, ite_true, ite_false]
    cases o <;> rfl
theorem lt_6 {i : Nat} (h : i < 6) : ¬ (6 : Int32) ≤ nI i := nI_ge h (by decide)
theorem m_whose (w : aW) {Y : aY} {κ : aK} {σ : Nat → aS} (hC : Cp σ Y) (hW : WF κ) (hs : Y.1 0 = 0) (x b : Int32) : ∃ Y', Yk Y Y' ∧ f_X4_whose 50 x b (putY w κ Y) = some (whoseK x b κ σ, putY w κ Y') := by
  have hk9 := hW.1
  have hC' := hC.thr 0
  unfold f_X4_whose whoseK
  by_cases h0 : livR x b κ σ = 0
  · obtain ⟨h1, h2, h3, h4⟩ := liv_0 h0
    obtain ⟨d, hd, rfl⟩ := in7 h1
    obtain ⟨i0, hi0, rfl⟩ := inB hk9 h2
    rw [ix7 hd] at h4
    have h20 := rowR_2 h4
    obtain ⟨N, hN, he⟩ := (hC' d hd).1.2.1
    obtain ⟨Y1, e1, hK, ht⟩ := k_think w (yint Y 1 0) hk9
    have hs1 : Y1.1 0 = 0 := e1.1.1.trans hs
    obtain ⟨Y2, e2', hl⟩ := bitsY3 w κ σ (c_X4_whose_28 50 (nI d) (nI i0)) 6 (whoQ (σ d) κ i0 N) (fun k m Y => by simp only [c_X4_whose_28, show (6 : Int32) ≤ nI 6 by decide, if_true, if_false, not_true_eq_false, not_false_eq_true, Bool.false_eq_true, Bool.true_eq_false, reduceIte, ite_true, ite_false]) (fun i Y hi h0 hC hK => by
      obtain ⟨Y', e', hK', h'⟩ := m_hungerRow w (κ0 := κ) (κ := kset κ 4 i0 (whoI i)) hk9 hC hd hN h20 he hi0 (who_WF hW hi0 hi) rfl h0 hK
      have h' : f_X4_isHungerRow 50 (nI d) (nI i0) (putY w (kset κ 4 i0 (whoI i)) Y) = some (zb (whoQ (σ d) κ i0 N i), putY w κ Y') := h'
      refine ⟨Y', e', hK', fun k m => ?_⟩
      unfold whoI at h'
      have hi6 := lt_6 hi
      by_cases hQ : whoQ (σ d) κ i0 N i = true
      · rw [if_pos hQ]
        by_cases h5 : i = 5
        · simp only [h5, if_true] at h' hQ hi6
          simp only [c_X4_whose_28, c_X4_whose_53, h5, hi6, show nI 5 = 5 from rfl, show ¬ (6 : Int32) ≤ 5 by decide, gI_Y0, gR_Y1, gR_Y2, gR_Y3, gR_Y4, gR_Y5, gI_Y6, gR_Y7, gR_Y8, gR_Y9, gR_Y10, gI_Y11, gI_Y12, gR_Y13, gR_Y14, gR_Y15, gR_Y16, gR_Y17, gR_Y18, gI_Y19, gI_Y20, gI_Y21, gI_Y22, gI_Y23, gR_Y24, gR_Y25, gR_Y26, gR_Y27, gR_Y28, gI_Y29, gI_Y30, gI_Y31, gR_Y33, gR_Y34, gI_Y35, gR_Y36, cV_Y, bk_some, bind_some', zb_0, zb_1, zb_or, cc_or, kset_1, kset_21, kint_1, kint_21, kint_22, putY_moved, sA_Y55 w Y hk9 hi0, h', hQ, nI_1, if_true, if_false, not_true_eq_false, not_false_eq_true, Bool.false_eq_true, Bool.true_eq_false, reduceIte, ite_true, ite_false]
          rfl
        · simp only [h5, if_false] at h'
          simp only [c_X4_whose_28, c_X4_whose_53, hi6, who_5 i hi, h5, gI_Y0, gR_Y1, gR_Y2, gR_Y3, gR_Y4, gR_Y5, gI_Y6, gR_Y7, gR_Y8, gR_Y9, gR_Y10, gI_Y11, gI_Y12, gR_Y13, gR_Y14, gR_Y15, gR_Y16, gR_Y17, gR_Y18, gI_Y19, gI_Y20, gI_Y21, gI_Y22, gI_Y23, gR_Y24, gR_Y25, gR_Y26, gR_Y27, gR_Y28, gI_Y29, gI_Y30, gI_Y31, gR_Y33, gR_Y34, gI_Y35, gR_Y36, cV_Y, bk_some, bind_some', zb_0, zb_1, zb_or, cc_or, kset_1, kset_21, kint_1, kint_21, kint_22, putY_moved, sA_Y55 w Y hk9 hi0, h', hQ, nI_1, if_true, if_false, not_true_eq_false, not_false_eq_true, Bool.false_eq_true, Bool.true_eq_false, reduceIte, ite_true, ite_false]
          rfl
      · rw [if_neg hQ]
        have hQ := Bool.eq_false_iff.mpr hQ
        by_cases h5 : i = 5
        · simp only [h5, if_true] at h' hQ hi6
          simp only [c_X4_whose_28, c_X4_whose_53, h5, hi6, show nI 5 = 5 from rfl, show ¬ (6 : Int32) ≤ 5 by decide, gI_Y0, gR_Y1, gR_Y2, gR_Y3, gR_Y4, gR_Y5, gI_Y6, gR_Y7, gR_Y8, gR_Y9, gR_Y10, gI_Y11, gI_Y12, gR_Y13, gR_Y14, gR_Y15, gR_Y16, gR_Y17, gR_Y18, gI_Y19, gI_Y20, gI_Y21, gI_Y22, gI_Y23, gR_Y24, gR_Y25, gR_Y26, gR_Y27, gR_Y28, gI_Y29, gI_Y30, gI_Y31, gR_Y33, gR_Y34, gI_Y35, gR_Y36, cV_Y, bk_some, bind_some', zb_0, zb_1, zb_or, cc_or, kset_1, kset_21, kint_1, kint_21, kint_22, putY_moved, sA_Y55 w Y hk9 hi0, h', hQ, i32_or0, nI_1, if_true, if_false, not_true_eq_false, not_false_eq_true, Bool.false_eq_true, Bool.true_eq_false, reduceIte, ite_true, ite_false]
          rfl
        · simp only [h5, if_false] at h'
          simp only [c_X4_whose_28, c_X4_whose_53, hi6, who_5 i hi, h5, gI_Y0, gR_Y1, gR_Y2, gR_Y3, gR_Y4, gR_Y5, gI_Y6, gR_Y7, gR_Y8, gR_Y9, gR_Y10, gI_Y11, gI_Y12, gR_Y13, gR_Y14, gR_Y15, gR_Y16, gR_Y17, gR_Y18, gI_Y19, gI_Y20, gI_Y21, gI_Y22, gI_Y23, gR_Y24, gR_Y25, gR_Y26, gR_Y27, gR_Y28, gI_Y29, gI_Y30, gI_Y31, gR_Y33, gR_Y34, gI_Y35, gR_Y36, cV_Y, bk_some, bind_some', zb_0, zb_1, zb_or, cc_or, kset_1, kset_21, kint_1, kint_21, kint_22, putY_moved, sA_Y55 w Y hk9 hi0, h', hQ, i32_or0, nI_1, if_true, if_false, not_true_eq_false, not_false_eq_true, Bool.false_eq_true, Bool.true_eq_false, reduceIte, ite_true, ite_false]) 6 0 0 Y1 a_fuel rfl (by decide) hs1 (hC'.yk e1) hK
    refine ⟨Y2, ((Yk.thrown Y 0).trans e1).trans e2', ?_⟩
    simp only [h0, m_living w κ hC', sF_Y19, Int32.le_refl, gI_Y0, gR_Y1, gR_Y2, gR_Y3, gR_Y4, gR_Y5, gI_Y6, gR_Y7, gR_Y8, gR_Y9, gR_Y10, gI_Y11, gI_Y12, gR_Y13, gR_Y14, gR_Y15, gR_Y16, gR_Y17, gR_Y18, gI_Y19, gI_Y20, gI_Y21, gI_Y22, gI_Y23, gR_Y24, gR_Y25, gR_Y26, gR_Y27, gR_Y28, gI_Y29, gI_Y30, gI_Y31, gR_Y33, gR_Y34, gI_Y35, gR_Y36, cV_Y, bk_some, bind_some', zb_0, zb_1, zb_or, cc_or, kset_1, kset_21, kint_1, kint_21, kint_22, putY_moved, ht, ix7 hd, ix_nI (show i0 < 2 ^ 31 by omega), sz_of hN he, if_true, if_false, not_true_eq_false, not_false_eq_true, Bool.false_eq_true, Bool.true_eq_false, reduceIte, ite_true, ite_false]
    exact hl
  · refine ⟨yint Y 1 0, Yk.thrown Y 0, ?_⟩
    simp only [h0, m_living w κ hC', sF_Y19, nle0 (liv_neg h0), gI_Y0, gR_Y1, gR_Y2, gR_Y3, gR_Y4, gR_Y5, gI_Y6, gR_Y7, gR_Y8, gR_Y9, gR_Y10, gI_Y11, gI_Y12, gR_Y13, gR_Y14, gR_Y15, gR_Y16, gR_Y17, gR_Y18, gI_Y19, gI_Y20, gI_Y21, gI_Y22, gI_Y23, gR_Y24, gR_Y25, gR_Y26, gR_Y27, gR_Y28, gI_Y29, gI_Y30, gI_Y31, gR_Y33, gR_Y34, gI_Y35, gR_Y36, cV_Y, bk_some, bind_some', zb_0, zb_1, zb_or, cc_or, kset_1, kset_21, kint_1, kint_21, kint_22, putY_moved, if_true, if_false, not_true_eq_false, not_false_eq_true, Bool.false_eq_true, Bool.true_eq_false, reduceIte, ite_true, ite_false]
