/-! PURE: rows that tell: what sort, where from, whose, judged -/
def okS (ν : aS) (i : Nat) (v : Int32) : Bool := !tellS ν (nI i) || decide (atS ν (nI i) = v)
/-- the first of m places from i on that is not so -/
def rowO (T : Nat → Int32 → Bool) (g : aK → Int32) : Nat → Nat → aK → Option Nat
  | 0, _, _ => none
  | m + 1, i, κ => if T i (g κ) = true then rowO T g m (i + 1) (passK 0 κ) else some i
theorem l64_eq (a b : Int32) : (a.toInt64 = b.toInt64) = (a = b) := propext ⟨fun h => by
  have h := congrArg Int64.toInt h
  rw [Int32.toInt_toInt64, Int32.toInt_toInt64] at h
  exact Int32.toInt_inj.mp h, fun h => by rw [h]⟩
theorem m_leastOf (k : Int32) (w : aW) : f_X4_leastOf k w = some ((lstI k).toInt64, w) := by
  unfold f_X4_leastOf lstI
  by_cases h1 : k = 0
  · simp only [h1, if_true, if_false, not_true_eq_false, not_false_eq_true, Bool.false_eq_true, Bool.true_eq_false, reduceIte, ite_true, ite_false]; rfl
  · by_cases h2 : k = 1
    · simp only [h2, show ¬ (1 : Int32) = 0 by decide, if_true, if_false, not_true_eq_false, not_false_eq_true, Bool.false_eq_true, Bool.true_eq_false, reduceIte, ite_true, ite_false]; rfl
    · simp only [h1, h2, if_true, if_false, not_true_eq_false, not_false_eq_true, Bool.false_eq_true, Bool.true_eq_false, reduceIte, ite_true, ite_false]; rfl
theorem m_isSkipped (w : aW) (κ : aK) {Y : aY} {σ : Nat → aS} (hC : Cp σ Y) {d N i : Nat} (hd : d < 8) (hN : N ≤ 100) (h2 : (σ d).1 0 = 2) (he : (σ d).1 4 = nI N) (hi : i < N) : f_X4_isSkipped 50 (nI d) (nI i) (putY w κ Y) = some (zb (!tellS (σ d) (nI i)), putY w κ Y) := by
  obtain ⟨hν, hY⟩ := hC d hd
  obtain ⟨hk, hsz, hel⟩ := hY.2.2 h2
  have ev := hel i (by omega)
  unfold f_X4_isSkipped tellS
  rw [at_in hN he hi, Bool.not_not]
  simp only [gI_Y0, gR_Y1, gR_Y2, gR_Y3, gR_Y4, gR_Y5, gI_Y6, gR_Y7, gR_Y8, gR_Y9, gR_Y10, gI_Y11, gI_Y12, gR_Y13, gR_Y14, gR_Y15, gR_Y16, gR_Y17, gR_Y18, gI_Y19, gI_Y20, gI_Y21, gI_Y22, gI_Y23, gR_Y24, gR_Y25, gR_Y26, gR_Y27, gR_Y28, gI_Y29, gI_Y30, gI_Y31, gR_Y33, gR_Y34, gI_Y35, gR_Y36, cV_Y, bk_some, bind_some', zb_0, zb_1, zb_or, cc_or, kset_1, kset_21, kint_1, kint_21, kint_22, putY_moved, h100 d hd, nI_add, gL_Y65 w κ Y (show 100 * d + i < 800 by omega), ev, gA_Y63 w κ Y hd, hk, m_leastOf, cmp_eq, l64_eq]
  by_cases h : (σ d).2 i = lstI ((σ d).1 3)
  · simp [h, zb]
  · simp [h, zb]
theorem fitsX (w : aW) (X : aX) {d N : Nat} (hd : d < 8) (hν : WFs (X.2.2.2.2.1 d)) (hN : N ≤ 100) (he : (X.2.2.2.2.1 d).1 4 = nI N) {b k : Nat} (hb : b < 9) (hk : k ≤ 8) : ∀ (m i : Nat) (κ : aK) (n : Nat), i + m = N → m < n → WF κ → ∃ μ, loop2 (c_X3_fits_3 0 (34 + 2 * d) (nI b) (nI k)) n (nI i) (putX w (xmind X κ)) = some (zb (rowO (okS (X.2.2.2.2.1 d)) (fun κ => toldB κ b k) m i κ).isNone, putX w (xmind X μ))
  | 0, i, κ, n + 1, hm, _, _ => by
    have : i = N := by omega
    subst this
    refine ⟨κ, ?_⟩
    show c_X3_fits_3 0 (34 + 2 * d) (nI b) (nI k) (loop2 (c_X3_fits_3 0 (34 + 2 * d) (nI b) (nI k)) n) (nI i) (putX w (xmind X κ)) = _
    simp only [c_X3_fits_3, S_gI4 w (xmind X κ) hd, xmind_s, he, bind_some', Int32.le_refl, if_true, if_false, not_true_eq_false, not_false_eq_true, Bool.false_eq_true, Bool.true_eq_false, reduceIte, ite_true, ite_false]
    rfl
  | m + 1, i, κ, n + 1, hm, hn, hW => by
    show ∃ μ, c_X3_fits_3 0 (34 + 2 * d) (nI b) (nI k) (loop2 (c_X3_fits_3 0 (34 + 2 * d) (nI b) (nI k)) n) (nI i) (putX w (xmind X κ)) = _
    have hlt : ¬ nI N ≤ nI i := le_nIb (by omega) (by omega) (by omega)
    unfold rowO
    by_cases hT : tellS (X.2.2.2.2.1 d) (nI i) = true
    · by_cases hv : atS (X.2.2.2.2.1 d) (nI i) = toldB κ b k
      · obtain ⟨μ, hμ⟩ := fitsX w X hd hν hN he hb hk m (i + 1) (passK 0 κ) n (by omega) (by omega) (pass_WF hW (m := 0) (by decide))
        refine ⟨μ, ?_⟩
        rw [if_pos (show okS (X.2.2.2.2.1 d) i (toldB κ b k) = true by unfold okS; rw [decide_eq_true hv, Bool.or_true])]
        simp only [c_X3_fits_3, S_gI4 w (xmind X κ) hd, S_cV w (xmind X κ) hd, S_tells w (xmind X κ) hd hν, S_at w (xmind X κ) hd hν, xmind_s, he, hlt, hT, hv, gR_X0, gR_X1, gR_X2, gI_X3, gR_X4, gR_X5, gR_X6, cV_X, x_think, xmind_1, xmind_0, xmind_2, xnow_0, xnow_1, xnow_2, bk_some, bind_some', zb_0, zb_1, zb_or, cc_or, T_cV, T_gI0, T_gI1, T_gI2, T_gI3, T_gR4, T_gR5, T_gR6, T_gR7, T_gR8, T_gR9, T_gR10, T_gR11, T_gR12, T_hasBeast, T_isAlive, T_calledBy, T_calledByAnybody, T_needTogether, T_workTogether, T_freeOnes, T_told w (X := xmind X κ) hW hb hk, T_passDay w (X := xmind X κ) hW, nI_1, if_true, if_false, not_true_eq_false, not_false_eq_true, Bool.false_eq_true, Bool.true_eq_false, reduceIte, ite_true, ite_false]
        exact hμ
      · refine ⟨κ, ?_⟩
        rw [if_neg (show ¬ okS (X.2.2.2.2.1 d) i (toldB κ b k) = true by unfold okS; rw [hT, decide_eq_false hv]; decide)]
        simp only [c_X3_fits_3, S_gI4 w (xmind X κ) hd, S_cV w (xmind X κ) hd, S_tells w (xmind X κ) hd hν, S_at w (xmind X κ) hd hν, xmind_s, he, hlt, hT, hv, gR_X0, gR_X1, gR_X2, gI_X3, gR_X4, gR_X5, gR_X6, cV_X, x_think, xmind_1, xmind_0, xmind_2, xnow_0, xnow_1, xnow_2, bk_some, bind_some', zb_0, zb_1, zb_or, cc_or, T_cV, T_gI0, T_gI1, T_gI2, T_gI3, T_gR4, T_gR5, T_gR6, T_gR7, T_gR8, T_gR9, T_gR10, T_gR11, T_gR12, T_hasBeast, T_isAlive, T_calledBy, T_calledByAnybody, T_needTogether, T_workTogether, T_freeOnes, T_told w (X := xmind X κ) hW hb hk, if_true, if_false, not_true_eq_false, not_false_eq_true, Bool.false_eq_true, Bool.true_eq_false, reduceIte, ite_true, ite_false]
        rfl
    · have hT := Bool.eq_false_iff.mpr hT
      obtain ⟨μ, hμ⟩ := fitsX w X hd hν hN he hb hk m (i + 1) (passK 0 κ) n (by omega) (by omega) (pass_WF hW (m := 0) (by decide))
      refine ⟨μ, ?_⟩
      rw [if_pos (show okS (X.2.2.2.2.1 d) i (toldB κ b k) = true by unfold okS; rw [hT]; rfl)]
      simp only [c_X3_fits_3, S_gI4 w (xmind X κ) hd, S_cV w (xmind X κ) hd, S_tells w (xmind X κ) hd hν, xmind_s, he, hlt, hT, gR_X0, gR_X1, gR_X2, gI_X3, gR_X4, gR_X5, gR_X6, cV_X, x_think, xmind_1, xmind_0, xmind_2, xnow_0, xnow_1, xnow_2, bk_some, bind_some', zb_0, zb_1, zb_or, cc_or, T_cV, T_gI0, T_gI1, T_gI2, T_gI3, T_gR4, T_gR5, T_gR6, T_gR7, T_gR8, T_gR9, T_gR10, T_gR11, T_gR12, T_hasBeast, T_isAlive, T_calledBy, T_calledByAnybody, T_needTogether, T_workTogether, T_freeOnes, T_passDay w (X := xmind X κ) hW, nI_1, if_true, if_false, not_true_eq_false, not_false_eq_true, Bool.false_eq_true, Bool.true_eq_false, reduceIte, ite_true, ite_false]
      exact hμ
theorem x_fits (w : aW) (X : aX) {d N : Nat} (hd : d < 8) (hν : WFs (X.2.2.2.2.1 d)) (hN : N ≤ 100) (he : (X.2.2.2.2.1 d).1 4 = nI N) {b k : Nat} (hb : b < 9) (hk : k ≤ 8) {κ : aK} (hW : WF κ) : ∃ μ, f_X3_fits 0 (34 + 2 * d) (nI b) (nI k) (putX w (xmind X κ)) = some (zb (rowO (okS (X.2.2.2.2.1 d)) (fun κ => toldB κ b k) N 0 κ).isNone, putX w (xmind X μ)) :=
  fitsX w X hd hν hN he hb hk N 0 κ a_fuel (by omega) (show N < 1000 by omega) hW
theorem rowP_end (w : aW) {κ0 κ : aK} (hk9 : κ0.1 ≤ 9) {Y : aY} {σ : Nat → aS} (hC : Cp σ Y) {d N : Nat} (hd : d < 8) (h2 : (σ d).1 0 = 2) (he : (σ d).1 4 = nI N) (b : Nat) (a3 : Int32) (k : Int32 → Int32 → aW → Option (Int32 × aW)) (c : Bool) (i : Nat) (hK : Kept Y 8 κ0) (hor : nI N ≤ nI i ∨ c = false) : ∃ Y', Yk Y Y' ∧ Kept Y' 8 κ0 ∧ c_X4_isPlaceRow_11 50 (nI d) (nI b) a3 k (zb c) (nI i) (putY w κ Y) = some (zb c, putY w κ0 Y') := by
  obtain ⟨Y2, e2, hK2, ha⟩ := k_again w κ Y hk9 hK
  refine ⟨Y2, e2, hK2, ?_⟩
  obtain ⟨hν, hY⟩ := hC d hd
  obtain ⟨hk, hsz, hel⟩ := hY.2.2 h2
  by_cases hle : nI N ≤ nI i
  · simp only [c_X4_isPlaceRow_11, gI_Y0, gR_Y1, gR_Y2, gR_Y3, gR_Y4, gR_Y5, gI_Y6, gR_Y7, gR_Y8, gR_Y9, gR_Y10, gI_Y11, gI_Y12, gR_Y13, gR_Y14, gR_Y15, gR_Y16, gR_Y17, gR_Y18, gI_Y19, gI_Y20, gI_Y21, gI_Y22, gI_Y23, gR_Y24, gR_Y25, gR_Y26, gR_Y27, gR_Y28, gI_Y29, gI_Y30, gI_Y31, gR_Y33, gR_Y34, gI_Y35, gR_Y36, cV_Y, bk_some, bind_some', zb_0, zb_1, zb_or, cc_or, kset_1, kset_21, kint_1, kint_21, kint_22, putY_moved, gA_Y64 w κ Y hd, hsz, he, hle, ha, true_or, or_true, if_true, if_false, not_true_eq_false, not_false_eq_true, Bool.false_eq_true, Bool.true_eq_false, reduceIte, ite_true, ite_false]
  · have hc := hor.resolve_left hle
    subst hc
    simp only [c_X4_isPlaceRow_11, gI_Y0, gR_Y1, gR_Y2, gR_Y3, gR_Y4, gR_Y5, gI_Y6, gR_Y7, gR_Y8, gR_Y9, gR_Y10, gI_Y11, gI_Y12, gR_Y13, gR_Y14, gR_Y15, gR_Y16, gR_Y17, gR_Y18, gI_Y19, gI_Y20, gI_Y21, gI_Y22, gI_Y23, gR_Y24, gR_Y25, gR_Y26, gR_Y27, gR_Y28, gI_Y29, gI_Y30, gI_Y31, gR_Y33, gR_Y34, gI_Y35, gR_Y36, cV_Y, bk_some, bind_some', zb_0, zb_1, zb_or, cc_or, kset_1, kset_21, kint_1, kint_21, kint_22, putY_moved, gA_Y64 w κ Y hd, hsz, he, hle, ha, true_or, or_true, if_true, if_false, not_true_eq_false, not_false_eq_true, Bool.false_eq_true, Bool.true_eq_false, reduceIte, ite_true, ite_false]
theorem rowP (w : aW) {κ0 : aK} (hk9 : κ0.1 ≤ 9) {σ : Nat → aS} {d N : Nat} (hd : d < 8) (hN : N ≤ 100) (h2 : (σ d).1 0 = 2) (he : (σ d).1 4 = nI N) {b : Nat} (hb : b < κ0.1) (a3 : Int32) : ∀ (m i : Nat) (κ : aK) (Y : aY) (n : Nat), i + m = N → m + 1 < n → WF κ → κ.1 = κ0.1 → Y.1 0 = 0 → Cp σ Y → Kept Y 8 κ0 → ∃ Y', Yk Y Y' ∧ Kept Y' 8 κ0 ∧ loop3 (c_X4_isPlaceRow_11 50 (nI d) (nI b) a3) n (zb true) (nI i) (putY w κ Y) = some (zb (rowO (okS (σ d)) (fun κ => κ.2.2 2 b) m i κ).isNone, putY w κ0 Y')
  | 0, i, κ, Y, n + 1, hm, _, _, _, _, hC, hK => by
    have : i = N := by omega
    subst this
    rw [loop3_s]
    exact rowP_end w hk9 hC hd h2 he b a3 _ true i hK (Or.inl (Int32.le_refl _))
  | m + 1, i, κ, Y, n + 1, hm, hn, hW, hk1, h0, hC, hK => by
    rw [loop3_s]
    have hlt : ¬ nI N ≤ nI i := le_nIb (by omega) (by omega) (by omega)
    have hκ9 := hW.1
    have hbκ : b < κ.1 := by omega
    obtain ⟨hν, hY⟩ := hC d hd
    obtain ⟨hk, hsz, hel⟩ := hY.2.2 h2
    have ev := hel i (by omega)
    have hat := at_in hN he (show i < N by omega)
    have hsk := m_isSkipped w κ hC hd hN h2 he (show i < N by omega)
    unfold rowO
    by_cases hT : tellS (σ d) (nI i) = true
    · rw [hT] at hsk
      by_cases hv : (σ d).2 i = κ.2.2 2 b
      · obtain ⟨Y', e', hK', h'⟩ := rowP w hk9 hd hN h2 he hb a3 m (i + 1) (passK 0 κ) Y n (by omega) (by omega) (pass_WF hW (m := 0) (by decide)) ((pass_1 0 κ).trans hk1) h0 hC hK
        refine ⟨Y', e', hK', ?_⟩
        rw [if_pos (show okS (σ d) i (κ.2.2 2 b) = true by unfold okS; rw [hat, decide_eq_true hv, Bool.or_true])]
        simp only [c_X4_isPlaceRow_11, gI_Y0, gR_Y1, gR_Y2, gR_Y3, gR_Y4, gR_Y5, gI_Y6, gR_Y7, gR_Y8, gR_Y9, gR_Y10, gI_Y11, gI_Y12, gR_Y13, gR_Y14, gR_Y15, gR_Y16, gR_Y17, gR_Y18, gI_Y19, gI_Y20, gI_Y21, gI_Y22, gI_Y23, gR_Y24, gR_Y25, gR_Y26, gR_Y27, gR_Y28, gI_Y29, gI_Y30, gI_Y31, gR_Y33, gR_Y34, gI_Y35, gR_Y36, cV_Y, bk_some, bind_some', zb_0, zb_1, zb_or, cc_or, kset_1, kset_21, kint_1, kint_21, kint_22, putY_moved, gA_Y64 w κ Y hd, hsz, he, hlt, hsk, h100 d hd, nI_add, gL_Y65 w κ Y (show 100 * d + i < 800 by omega), ev, gA_Y53 w Y hκ9 hbκ, cmp_eq, l64_eq, hv, m_dayOn0 w Y hW h0, nI_1, Bool.not_true, if_true, if_false, not_true_eq_false, not_false_eq_true, Bool.false_eq_true, Bool.true_eq_false, reduceIte, ite_true, ite_false]
        exact h'
      · obtain ⟨n', rfl⟩ : ∃ n', n = n' + 1 := ⟨n - 1, by omega⟩
        obtain ⟨Y', e', hK', h'⟩ := rowP_end w (κ := passK 0 κ) hk9 hC hd h2 he b a3 (loop3 (c_X4_isPlaceRow_11 50 (nI d) (nI b) a3) n') false (i + 1) hK (Or.inr rfl)
        refine ⟨Y', e', hK', ?_⟩
        rw [if_neg (show ¬ okS (σ d) i (κ.2.2 2 b) = true by unfold okS; rw [hat, hT, decide_eq_false hv]; decide)]
        have hstep : ∀ k, c_X4_isPlaceRow_11 50 (nI d) (nI b) a3 k (zb true) (nI i) (putY w κ Y) = k (zb false) (nI (i + 1)) (putY w (passK 0 κ) Y) := fun k => by
          simp only [c_X4_isPlaceRow_11, gI_Y0, gR_Y1, gR_Y2, gR_Y3, gR_Y4, gR_Y5, gI_Y6, gR_Y7, gR_Y8, gR_Y9, gR_Y10, gI_Y11, gI_Y12, gR_Y13, gR_Y14, gR_Y15, gR_Y16, gR_Y17, gR_Y18, gI_Y19, gI_Y20, gI_Y21, gI_Y22, gI_Y23, gR_Y24, gR_Y25, gR_Y26, gR_Y27, gR_Y28, gI_Y29, gI_Y30, gI_Y31, gR_Y33, gR_Y34, gI_Y35, gR_Y36, cV_Y, bk_some, bind_some', zb_0, zb_1, zb_or, cc_or, kset_1, kset_21, kint_1, kint_21, kint_22, putY_moved, gA_Y64 w κ Y hd, hsz, he, hlt, hsk, h100 d hd, nI_add, gL_Y65 w κ Y (show 100 * d + i < 800 by omega), ev, gA_Y53 w Y hκ9 hbκ, cmp_eq, l64_eq, hv, m_dayOn0 w Y hW h0, nI_1, Bool.not_true, if_true, if_false, not_true_eq_false, not_false_eq_true, Bool.false_eq_true, Bool.true_eq_false, reduceIte, ite_true, ite_false]
          rfl
        rw [hstep, loop3_s]
        exact h'
    · have hT := Bool.eq_false_iff.mpr hT
      rw [hT] at hsk
      obtain ⟨Y', e', hK', h'⟩ := rowP w hk9 hd hN h2 he hb a3 m (i + 1) (passK 0 κ) Y n (by omega) (by omega) (pass_WF hW (m := 0) (by decide)) ((pass_1 0 κ).trans hk1) h0 hC hK
      refine ⟨Y', e', hK', ?_⟩
      rw [if_pos (show okS (σ d) i (κ.2.2 2 b) = true by unfold okS; rw [hT]; rfl)]
      simp only [c_X4_isPlaceRow_11, gI_Y0, gR_Y1, gR_Y2, gR_Y3, gR_Y4, gR_Y5, gI_Y6, gR_Y7, gR_Y8, gR_Y9, gR_Y10, gI_Y11, gI_Y12, gR_Y13, gR_Y14, gR_Y15, gR_Y16, gR_Y17, gR_Y18, gI_Y19, gI_Y20, gI_Y21, gI_Y22, gI_Y23, gR_Y24, gR_Y25, gR_Y26, gR_Y27, gR_Y28, gI_Y29, gI_Y30, gI_Y31, gR_Y33, gR_Y34, gI_Y35, gR_Y36, cV_Y, bk_some, bind_some', zb_0, zb_1, zb_or, cc_or, kset_1, kset_21, kint_1, kint_21, kint_22, putY_moved, gA_Y64 w κ Y hd, hsz, he, hlt, hsk, m_dayOn0 w Y hW h0, nI_1, Bool.not_false, if_true, if_false, not_true_eq_false, not_false_eq_true, Bool.false_eq_true, Bool.true_eq_false, reduceIte, ite_true, ite_false]
      exact h' 
theorem rowH_end (w : aW) {κ0 κ : aK} (hk9 : κ0.1 ≤ 9) {Y : aY} {σ : Nat → aS} (hC : Cp σ Y) {d N : Nat} (hd : d < 8) (h2 : (σ d).1 0 = 2) (he : (σ d).1 4 = nI N) (b : Nat) (k : Int32 → Int32 → aW → Option (Int32 × aW)) (c : Bool) (i : Nat) (hK : Kept Y 8 κ0) (hor : nI N ≤ nI i ∨ c = false) : ∃ Y', Yk Y Y' ∧ Kept Y' 8 κ0 ∧ c_X4_isHungerRow_5 50 (nI d) (nI b) k (zb c) (nI i) (putY w κ Y) = some (zb c, putY w κ0 Y') := by
  obtain ⟨Y2, e2, hK2, ha⟩ := k_again w κ Y hk9 hK
  refine ⟨Y2, e2, hK2, ?_⟩
  obtain ⟨hν, hY⟩ := hC d hd
  obtain ⟨hk, hsz, hel⟩ := hY.2.2 h2
  by_cases hle : nI N ≤ nI i
  · simp only [c_X4_isHungerRow_5, gI_Y0, gR_Y1, gR_Y2, gR_Y3, gR_Y4, gR_Y5, gI_Y6, gR_Y7, gR_Y8, gR_Y9, gR_Y10, gI_Y11, gI_Y12, gR_Y13, gR_Y14, gR_Y15, gR_Y16, gR_Y17, gR_Y18, gI_Y19, gI_Y20, gI_Y21, gI_Y22, gI_Y23, gR_Y24, gR_Y25, gR_Y26, gR_Y27, gR_Y28, gI_Y29, gI_Y30, gI_Y31, gR_Y33, gR_Y34, gI_Y35, gR_Y36, cV_Y, bk_some, bind_some', zb_0, zb_1, zb_or, cc_or, kset_1, kset_21, kint_1, kint_21, kint_22, putY_moved, gA_Y64 w κ Y hd, hsz, he, hle, ha, true_or, or_true, if_true, if_false, not_true_eq_false, not_false_eq_true, Bool.false_eq_true, Bool.true_eq_false, reduceIte, ite_true, ite_false]
  · have hc := hor.resolve_left hle
    subst hc
    simp only [c_X4_isHungerRow_5, gI_Y0, gR_Y1, gR_Y2, gR_Y3, gR_Y4, gR_Y5, gI_Y6, gR_Y7, gR_Y8, gR_Y9, gR_Y10, gI_Y11, gI_Y12, gR_Y13, gR_Y14, gR_Y15, gR_Y16, gR_Y17, gR_Y18, gI_Y19, gI_Y20, gI_Y21, gI_Y22, gI_Y23, gR_Y24, gR_Y25, gR_Y26, gR_Y27, gR_Y28, gI_Y29, gI_Y30, gI_Y31, gR_Y33, gR_Y34, gI_Y35, gR_Y36, cV_Y, bk_some, bind_some', zb_0, zb_1, zb_or, cc_or, kset_1, kset_21, kint_1, kint_21, kint_22, putY_moved, gA_Y64 w κ Y hd, hsz, he, hle, ha, true_or, or_true, if_true, if_false, not_true_eq_false, not_false_eq_true, Bool.false_eq_true, Bool.true_eq_false, reduceIte, ite_true, ite_false]
theorem rowH (w : aW) {κ0 : aK} (hk9 : κ0.1 ≤ 9) {σ : Nat → aS} {d N : Nat} (hd : d < 8) (hN : N ≤ 100) (h2 : (σ d).1 0 = 2) (he : (σ d).1 4 = nI N) {b : Nat} (hb : b < κ0.1) : ∀ (m i : Nat) (κ : aK) (Y : aY) (n : Nat), i + m = N → m + 1 < n → WF κ → κ.1 = κ0.1 → Y.1 0 = 0 → Cp σ Y → Kept Y 8 κ0 → ∃ Y', Yk Y Y' ∧ Kept Y' 8 κ0 ∧ loop3 (c_X4_isHungerRow_5 50 (nI d) (nI b)) n (zb true) (nI i) (putY w κ Y) = some (zb (rowO (okS (σ d)) (fun κ => κ.2.2 3 b) m i κ).isNone, putY w κ0 Y')
  | 0, i, κ, Y, n + 1, hm, _, _, _, _, hC, hK => by
    have : i = N := by omega
    subst this
    rw [loop3_s]
    exact rowH_end w hk9 hC hd h2 he b  _ true i hK (Or.inl (Int32.le_refl _))
  | m + 1, i, κ, Y, n + 1, hm, hn, hW, hk1, h0, hC, hK => by
    rw [loop3_s]
    have hlt : ¬ nI N ≤ nI i := le_nIb (by omega) (by omega) (by omega)
    have hκ9 := hW.1
    have hbκ : b < κ.1 := by omega
    obtain ⟨hν, hY⟩ := hC d hd
    obtain ⟨hk, hsz, hel⟩ := hY.2.2 h2
    have ev := hel i (by omega)
    have hat := at_in hN he (show i < N by omega)
    have hsk := m_isSkipped w κ hC hd hN h2 he (show i < N by omega)
    unfold rowO
    by_cases hT : tellS (σ d) (nI i) = true
    · rw [hT] at hsk
      by_cases hv : (σ d).2 i = κ.2.2 3 b
      · obtain ⟨Y', e', hK', h'⟩ := rowH w hk9 hd hN h2 he hb  m (i + 1) (passK 0 κ) Y n (by omega) (by omega) (pass_WF hW (m := 0) (by decide)) ((pass_1 0 κ).trans hk1) h0 hC hK
        refine ⟨Y', e', hK', ?_⟩
        rw [if_pos (show okS (σ d) i (κ.2.2 3 b) = true by unfold okS; rw [hat, decide_eq_true hv, Bool.or_true])]
        simp only [c_X4_isHungerRow_5, gI_Y0, gR_Y1, gR_Y2, gR_Y3, gR_Y4, gR_Y5, gI_Y6, gR_Y7, gR_Y8, gR_Y9, gR_Y10, gI_Y11, gI_Y12, gR_Y13, gR_Y14, gR_Y15, gR_Y16, gR_Y17, gR_Y18, gI_Y19, gI_Y20, gI_Y21, gI_Y22, gI_Y23, gR_Y24, gR_Y25, gR_Y26, gR_Y27, gR_Y28, gI_Y29, gI_Y30, gI_Y31, gR_Y33, gR_Y34, gI_Y35, gR_Y36, cV_Y, bk_some, bind_some', zb_0, zb_1, zb_or, cc_or, kset_1, kset_21, kint_1, kint_21, kint_22, putY_moved, gA_Y64 w κ Y hd, hsz, he, hlt, hsk, h100 d hd, nI_add, gL_Y65 w κ Y (show 100 * d + i < 800 by omega), ev, gA_Y54 w Y hκ9 hbκ, cmp_eq, l64_eq, hv, m_dayOn0 w Y hW h0, nI_1, Bool.not_true, if_true, if_false, not_true_eq_false, not_false_eq_true, Bool.false_eq_true, Bool.true_eq_false, reduceIte, ite_true, ite_false]
        exact h'
      · obtain ⟨n', rfl⟩ : ∃ n', n = n' + 1 := ⟨n - 1, by omega⟩
        obtain ⟨Y', e', hK', h'⟩ := rowH_end w (κ := passK 0 κ) hk9 hC hd h2 he b  (loop3 (c_X4_isHungerRow_5 50 (nI d) (nI b)) n') false (i + 1) hK (Or.inr rfl)
        refine ⟨Y', e', hK', ?_⟩
        rw [if_neg (show ¬ okS (σ d) i (κ.2.2 3 b) = true by unfold okS; rw [hat, hT, decide_eq_false hv]; decide)]
        have hstep : ∀ k, c_X4_isHungerRow_5 50 (nI d) (nI b) k (zb true) (nI i) (putY w κ Y) = k (zb false) (nI (i + 1)) (putY w (passK 0 κ) Y) := fun k => by
          simp only [c_X4_isHungerRow_5, gI_Y0, gR_Y1, gR_Y2, gR_Y3, gR_Y4, gR_Y5, gI_Y6, gR_Y7, gR_Y8, gR_Y9, gR_Y10, gI_Y11, gI_Y12, gR_Y13, gR_Y14, gR_Y15, gR_Y16, gR_Y17, gR_Y18, gI_Y19, gI_Y20, gI_Y21, gI_Y22, gI_Y23, gR_Y24, gR_Y25, gR_Y26, gR_Y27, gR_Y28, gI_Y29, gI_Y30, gI_Y31, gR_Y33, gR_Y34, gI_Y35, gR_Y36, cV_Y, bk_some, bind_some', zb_0, zb_1, zb_or, cc_or, kset_1, kset_21, kint_1, kint_21, kint_22, putY_moved, gA_Y64 w κ Y hd, hsz, he, hlt, hsk, h100 d hd, nI_add, gL_Y65 w κ Y (show 100 * d + i < 800 by omega), ev, gA_Y54 w Y hκ9 hbκ, cmp_eq, l64_eq, hv, m_dayOn0 w Y hW h0, nI_1, Bool.not_true, if_true, if_false, not_true_eq_false, not_false_eq_true, Bool.false_eq_true, Bool.true_eq_false, reduceIte, ite_true, ite_false]
          rfl
        rw [hstep, loop3_s]
        exact h'
    · have hT := Bool.eq_false_iff.mpr hT
      rw [hT] at hsk
      obtain ⟨Y', e', hK', h'⟩ := rowH w hk9 hd hN h2 he hb  m (i + 1) (passK 0 κ) Y n (by omega) (by omega) (pass_WF hW (m := 0) (by decide)) ((pass_1 0 κ).trans hk1) h0 hC hK
      refine ⟨Y', e', hK', ?_⟩
      rw [if_pos (show okS (σ d) i (κ.2.2 3 b) = true by unfold okS; rw [hT]; rfl)]
      simp only [c_X4_isHungerRow_5, gI_Y0, gR_Y1, gR_Y2, gR_Y3, gR_Y4, gR_Y5, gI_Y6, gR_Y7, gR_Y8, gR_Y9, gR_Y10, gI_Y11, gI_Y12, gR_Y13, gR_Y14, gR_Y15, gR_Y16, gR_Y17, gR_Y18, gI_Y19, gI_Y20, gI_Y21, gI_Y22, gI_Y23, gR_Y24, gR_Y25, gR_Y26, gR_Y27, gR_Y28, gI_Y29, gI_Y30, gI_Y31, gR_Y33, gR_Y34, gI_Y35, gR_Y36, cV_Y, bk_some, bind_some', zb_0, zb_1, zb_or, cc_or, kset_1, kset_21, kint_1, kint_21, kint_22, putY_moved, gA_Y64 w κ Y hd, hsz, he, hlt, hsk, m_dayOn0 w Y hW h0, nI_1, Bool.not_false, if_true, if_false, not_true_eq_false, not_false_eq_true, Bool.false_eq_true, Bool.true_eq_false, reduceIte, ite_true, ite_false]
      exact h' 
theorem m_placeRow (w : aW) {κ0 κ : aK} (hk9 : κ0.1 ≤ 9) {Y : aY} {σ : Nat → aS} (hC : Cp σ Y) {d N : Nat} (hd : d < 8) (hN : N ≤ 100) (h2 : (σ d).1 0 = 2) (he : (σ d).1 4 = nI N) {b : Nat} (hb : b < κ0.1) {f : Nat} (hf : f < 1000) (hW : WF κ) (hk1 : κ.1 = κ0.1) (h0 : Y.1 0 = 0) (hK : Kept Y 8 κ0) : ∃ Y', Yk Y Y' ∧ Kept Y' 8 κ0 ∧ f_X4_isPlaceRow 50 (nI d) (nI b) (nI f) (putY w κ Y) = some (zb (rowO (okS (σ d)) (fun κ => κ.2.2 2 b) N 0 (daysK f κ)).isNone, putY w κ0 Y') := by
  obtain ⟨Y', e', hK', h'⟩ := rowP w hk9 hd hN h2 he hb (nI f) N 0 (daysK f κ) Y a_fuel (by omega) (show N + 1 < 1000 by omega) (days_WF hW f) ((days_1 f κ).trans hk1) h0 hC hK
  refine ⟨Y', e', hK', ?_⟩
  unfold f_X4_isPlaceRow
  simp only [gI_Y0, gR_Y1, gR_Y2, gR_Y3, gR_Y4, gR_Y5, gI_Y6, gR_Y7, gR_Y8, gR_Y9, gR_Y10, gI_Y11, gI_Y12, gR_Y13, gR_Y14, gR_Y15, gR_Y16, gR_Y17, gR_Y18, gI_Y19, gI_Y20, gI_Y21, gI_Y22, gI_Y23, gR_Y24, gR_Y25, gR_Y26, gR_Y27, gR_Y28, gI_Y29, gI_Y30, gI_Y31, gR_Y33, gR_Y34, gI_Y35, gR_Y36, cV_Y, bk_some, bind_some', zb_0, zb_1, zb_or, cc_or, kset_1, kset_21, kint_1, kint_21, kint_22, putY_moved, m_goDays w Y hW h0 hf]
  exact h'
theorem m_hungerRow (w : aW) {κ0 κ : aK} (hk9 : κ0.1 ≤ 9) {Y : aY} {σ : Nat → aS} (hC : Cp σ Y) {d N : Nat} (hd : d < 8) (hN : N ≤ 100) (h2 : (σ d).1 0 = 2) (he : (σ d).1 4 = nI N) {b : Nat} (hb : b < κ0.1) (hW : WF κ) (hk1 : κ.1 = κ0.1) (h0 : Y.1 0 = 0) (hK : Kept Y 8 κ0) : ∃ Y', Yk Y Y' ∧ Kept Y' 8 κ0 ∧ f_X4_isHungerRow 50 (nI d) (nI b) (putY w κ Y) = some (zb (rowO (okS (σ d)) (fun κ => κ.2.2 3 b) N 0 κ).isNone, putY w κ0 Y') :=
  rowH w hk9 hd hN h2 he hb N 0 κ Y a_fuel (by omega) (show N + 1 < 1000 by omega) hW hk1 h0 hC hK
theorem bitsX3 (w : aW) (X : aX) (B : (Int32 → Int32 → aW → Option (Int32 × aW)) → Int32 → Int32 → aW → Option (Int32 × aW)) (N : Nat) (Q : Nat → Bool)
    (he : ∀ k m μ, B k m (nI N) (putX w (xmind X μ)) = some (m, putX w (xmind X μ)))
    (hs : ∀ i μ, i < N → ∃ μ', ∀ k m, B k m (nI i) (putX w (xmind X μ)) = k (if Q i = true then m ||| oneI i else m) (nI (i + 1)) (putX w (xmind X μ'))) :
    ∀ (c i : Nat) (m : Int32) (μ : aK) (n : Nat), i + c = N → c < n → ∃ μ', loop3 B n m (nI i) (putX w (xmind X μ)) = some (itr (mskF Q) i c m, putX w (xmind X μ'))
  | 0, i, m, μ, n + 1, hc, _ => by
    have : i = N := by omega
    subst this
    exact ⟨μ, he _ m μ⟩
  | c + 1, i, m, μ, n + 1, hc, hn => by
    obtain ⟨μ1, h1⟩ := hs i μ (by omega)
    obtain ⟨μ', h'⟩ := bitsX3 w X B N Q he hs c (i + 1) (mskF Q i m) μ1 n (by omega) (by omega)
    refine ⟨μ', ?_⟩
    rw [loop3_s, h1]
    exact h'
theorem bitsX4 (w : aW) (X : aX) (r : Nat) (B : (Nat → Int32 → Int32 → aW → Option (Int32 × aW)) → Nat → Int32 → Int32 → aW → Option (Int32 × aW)) (N : Nat) (Q : Nat → Bool)
    (he : ∀ k m μ, B k r m (nI N) (putX w (xmind X μ)) = some (m, putX w (xmind X μ)))
    (hs : ∀ i μ, i < N → ∃ μ', ∀ k m, B k r m (nI i) (putX w (xmind X μ)) = k r (if Q i = true then m ||| oneI i else m) (nI (i + 1)) (putX w (xmind X μ'))) :
    ∀ (c i : Nat) (m : Int32) (μ : aK) (n : Nat), i + c = N → c < n → ∃ μ', loop4 B n r m (nI i) (putX w (xmind X μ)) = some (itr (mskF Q) i c m, putX w (xmind X μ'))
  | 0, i, m, μ, n + 1, hc, _ => by
    have : i = N := by omega
    subst this
    exact ⟨μ, he _ m μ⟩
  | c + 1, i, m, μ, n + 1, hc, hn => by
    obtain ⟨μ1, h1⟩ := hs i μ (by omega)
    obtain ⟨μ', h'⟩ := bitsX4 w X r B N Q he hs c (i + 1) (mskF Q i m) μ1 n (by omega) (by omega)
    refine ⟨μ', ?_⟩
    rw [loop4_s, h1]
    exact h'
theorem bitsY3 (w : aW) (κ0 : aK) (σ : Nat → aS) (B : (Int32 → Int32 → aW → Option (Int32 × aW)) → Int32 → Int32 → aW → Option (Int32 × aW)) (N : Nat) (Q : Nat → Bool)
    (he : ∀ k m Y, B k m (nI N) (putY w κ0 Y) = some (m, putY w κ0 Y))
    (hs : ∀ i Y, i < N → Y.1 0 = 0 → Cp σ Y → Kept Y 8 κ0 → ∃ Y', Yk Y Y' ∧ Kept Y' 8 κ0 ∧ ∀ k m, B k m (nI i) (putY w κ0 Y) = k (if Q i = true then m ||| oneI i else m) (nI (i + 1)) (putY w κ0 Y')) :
    ∀ (c i : Nat) (m : Int32) (Y : aY) (n : Nat), i + c = N → c < n → Y.1 0 = 0 → Cp σ Y → Kept Y 8 κ0 → ∃ Y', Yk Y Y' ∧ loop3 B n m (nI i) (putY w κ0 Y) = some (itr (mskF Q) i c m, putY w κ0 Y')
  | 0, i, m, Y, n + 1, hc, _, _, _, _ => by
    have : i = N := by omega
    subst this
    exact ⟨Y, Yk.refl Y, he _ m Y⟩
  | c + 1, i, m, Y, n + 1, hc, hn, h0, hC, hK => by
    obtain ⟨Y1, e1, hK1, h1⟩ := hs i Y (by omega) h0 hC hK
    obtain ⟨Y', e', h'⟩ := bitsY3 w κ0 σ B N Q he hs c (i + 1) (mskF Q i m) Y1 n (by omega) (by omega) (e1.1.1.trans h0) (hC.yk e1) hK1
    refine ⟨Y', e1.trans e', ?_⟩
    rw [loop3_s, h1]
    exact h'
theorem WF.sort {κ : aK} (h : WF κ) {i x : Nat} (hx : x ≤ 7) : WF (kset κ 0 i (nI x)) := by
  obtain ⟨h1, h2, h3, h4, h5⟩ := h
  refine ⟨h1, fun z hz => ?_, fun p hp => ?_, h4, fun z h6 h7 => ?_⟩
  · have := h2 z hz
    unfold WFb at this ⊢
    simp only [kset_22]
    by_cases hzi : z = i
    · simpa [hzi] using ⟨⟨x, hx, rfl⟩, by simpa [hzi] using this.2.1, by simpa [hzi] using this.2.2.1, by simpa [hzi] using this.2.2.2.1, by simpa [hzi] using this.2.2.2.2⟩
    · simpa [hzi] using this
  · have := h3 p hp
    unfold WFp at this ⊢
    simpa [kset_22] using this
  · have := h5 z h6 h7
    simpa [kset_22, kset_21] using this
theorem WF.figure {κ : aK} (h : WF κ) {i x : Nat} (hx : x ≤ 9) : WF (kset κ 1 i (nI x)) := by
  obtain ⟨h1, h2, h3, h4, h5⟩ := h
  refine ⟨h1, fun z hz => ?_, fun p hp => ?_, h4, fun z h6 h7 => ?_⟩
  · have := h2 z hz
    unfold WFb at this ⊢
    simp only [kset_22]
    by_cases hzi : z = i
    · simpa [hzi] using ⟨by simpa [hzi] using this.1, ⟨x, hx, rfl⟩, by simpa [hzi] using this.2.2.1, by simpa [hzi] using this.2.2.2.1, by simpa [hzi] using this.2.2.2.2⟩
    · simpa [hzi] using this
  · have := h3 p hp
    unfold WFp at this ⊢
    simpa [kset_22] using this
  · have := h5 z h6 h7
    simpa [kset_22, kset_21] using this
