/-! PURE: exchange, at both sides -/
def swapK (κ : aK) (i j : Nat) : aK := kset (kset κ 7 i (κ.2.2 7 j)) 7 j (κ.2.2 7 i)
def liveK (n : Nat) (κ : aK) : Int32 := popI ((daysK n κ).2.1 1)
def exF (n : Nat) (κ : aK) (i j : Nat) (s : Int32 × Int32) : Int32 × Int32 := if liveK n (swapK κ i j) ≤ s.1 then s else (liveK n (swapK κ i j), 10 * nI i + nI j)
def exT (n : Nat) (κ : aK) (t : Nat) (s : Int32 × Int32) : Int32 × Int32 := if t % 5 ≤ t / 5 then s else exF n κ (t / 5) (t % 5) s
def exchangeK (x : Int32) (κ : aK) : Int32 := if inR x 0 20 = true then (itr (exT (ix x) κ) 0 25 (liveK (ix x) κ, -4)).2 else -1
theorem speech_any {κ : aK} (hW : WF κ) {p q : Nat} (hq : q < 5) : WF (kset κ 7 p (κ.2.2 7 q)) := by
  obtain ⟨t, ht, he⟩ := (hW.2.2.1 q hq).2.2.1
  rw [he]; exact hW.speech ht
theorem swap_WF {κ : aK} (hW : WF κ) {i j : Nat} (hi : i < 5) (hj : j < 5) : WF (swapK κ i j) := by
  unfold swapK
  obtain ⟨t, ht, he⟩ := (hW.2.2.1 i hi).2.2.1
  rw [he]
  exact (speech_any hW hj).speech ht
theorem x_aliveBehind (w : aW) (X : aX) {κ : aK} (hW : WF κ) {n : Nat} (hn : n < 1000) : f_X3_aliveBehind 0 (nI n) (putX w (xmind X κ)) = some (liveK n κ, putX w (xmind X (daysK n κ))) := by
  unfold f_X3_aliveBehind
  simp only [gR_X0, gR_X1, gR_X2, gI_X3, gR_X4, gR_X5, gR_X6, cV_X, x_think, xmind_1, xmind_0, xmind_2, xnow_0, xnow_1, xnow_2, bk_some, bind_some', zb_0, zb_1, zb_or, cc_or, T_cV, T_gI0, T_gI1, T_gI2, T_gI3, T_gR4, T_gR5, T_gR6, T_gR7, T_gR8, T_gR9, T_gR10, T_gR11, T_gR12, T_hasBeast, T_isAlive, T_calledBy, T_calledByAnybody, T_needTogether, T_workTogether, T_freeOnes, T_passDays w (X := xmind X κ) hW hn, p_bitCount]
  rfl
theorem m_liveThen (w : aW) {κ0 κ : aK} (hk9 : κ0.1 ≤ 9) (Y : aY) (hW : WF κ) (hs : Y.1 0 = 0) (hK : Kept Y 8 κ0) {n : Nat} (hn : n < 1000) : ∃ Y', Yk Y Y' ∧ Kept Y' 8 κ0 ∧ f_X4_liveThen 50 (nI n) (putY w κ Y) = some (liveK n κ, putY w κ0 Y') := by
  obtain ⟨Y2, e2, hK2, ha⟩ := k_again w (daysK n κ) Y hk9 hK
  refine ⟨Y2, e2, hK2, ?_⟩
  unfold f_X4_liveThen
  simp only [gI_Y0, gR_Y1, gR_Y2, gR_Y3, gR_Y4, gR_Y5, gI_Y6, gR_Y7, gR_Y8, gR_Y9, gR_Y10, gI_Y11, gI_Y12, gR_Y13, gR_Y14, gR_Y15, gR_Y16, gR_Y17, gR_Y18, gI_Y19, gI_Y20, gI_Y21, gI_Y22, gI_Y23, gR_Y24, gR_Y25, gR_Y26, gR_Y27, gR_Y28, gI_Y29, gI_Y30, gI_Y31, gR_Y33, gR_Y34, gI_Y35, gR_Y36, cV_Y, bk_some, bind_some', zb_0, zb_1, zb_or, cc_or, kset_1, kset_21, kint_1, kint_21, kint_22, putY_moved, m_goDays w Y hW hs hn, m_onesOf' (days_WF hW n).2.2.2.1, ha]
  rfl
theorem exX_in (w : aW) {X : aX} (hW : WF X.1) {n : Nat} (hn : n < 1000) {i : Nat} (hi : i < 5) (k28 : Int32 → Int32 → Int32 → aW → Option (Int32 × aW))
    (hk : ∀ (s : Int32 × Int32) μ, ∃ μ', k28 s.1 s.2 (nI (i + 1)) (putX w (xmind X μ)) = some ((itr (exT n X.1) (5 * (i + 1)) (25 - 5 * (i + 1)) s).2, putX w (xmind X μ'))) :
    ∀ (c j : Nat) (s : Int32 × Int32) (μ : aK) (f : Nat), j + c = 5 → c < f → i < j → ∃ μ', loop5 (c_X3_exchange_40 0 (nI n) k28) f s.1 s.2 (nI i) (nI j) (putX w (xmind X μ)) = some ((itr (exT n X.1) (5 * i + j) (25 - (5 * i + j)) s).2, putX w (xmind X μ'))
  | 0, j, s, μ, f + 1, hc, _, _ => by
    have : j = 5 := by omega
    subst this
    obtain ⟨μ', h'⟩ := hk s μ
    refine ⟨μ', ?_⟩
    rw [loop5_s]
    simp only [c_X3_exchange_40, show (5 : Int32) ≤ nI 5 by decide, nI_1, if_true, if_false, not_true_eq_false, not_false_eq_true, Bool.false_eq_true, Bool.true_eq_false, reduceIte, ite_true, ite_false]
    rw [show 5 * i + 5 = 5 * (i + 1) by omega]
    exact h'
  | c + 1, j, s, μ, f + 1, hc, hf, hij => by
    have hj : j < 5 := by omega
    have e : 25 - (5 * i + j) = (25 - (5 * i + (j + 1))) + 1 := by omega
    rw [loop5_s, e]
    show ∃ μ', _ = some ((itr (exT n X.1) (5 * i + (j + 1)) (25 - (5 * i + (j + 1))) (exT n X.1 (5 * i + j) s)).2, _)
    have et : exT n X.1 (5 * i + j) s = exF n X.1 i j s := by
      unfold exT
      rw [show (5 * i + j) % 5 = j by omega, show (5 * i + j) / 5 = i by omega, if_neg (by omega)]
    rw [et]
    have hs1 := T_sA w (xmind X X.1) 7 (by decide) (i := i) hi (X.1.2.2 7 j)
    have hs2 := T_sA w (xmind X (kset X.1 7 i (X.1.2.2 7 j))) 7 (by decide) (i := j) hj (X.1.2.2 7 i)
    simp only [Nat.reduceAdd] at hs1 hs2
    have hWs := swap_WF hW hi hj
    have hab := x_aliveBehind w X hWs hn
    unfold swapK at hab
    obtain ⟨μ', h'⟩ := exX_in w hW hn hi k28 hk c (j + 1) (exF n X.1 i j s) (daysK n (swapK X.1 i j)) f (by omega) (by omega) (by omega)
    refine ⟨μ', ?_⟩
    rw [← h']
    unfold exF
    by_cases hv : liveK n (swapK X.1 i j) ≤ s.1
    · have hv' : liveK n (kset (kset X.1 7 i (X.1.2.2 7 j)) 7 j (X.1.2.2 7 i)) ≤ s.1 := hv
      rw [if_pos hv]
      simp only [c_X3_exchange_40, le_5 hj, gR_X0, gR_X1, gR_X2, gI_X3, gR_X4, gR_X5, gR_X6, cV_X, x_think, xmind_1, xmind_0, xmind_2, xnow_0, xnow_1, xnow_2, bk_some, bind_some', zb_0, zb_1, zb_or, cc_or, N_cV, N_gI0, N_gI1, N_gI2, N_gI3, N_gR4, N_gR5, N_gR6, N_gR7, N_gR8, N_gR9, N_gR10, N_gR11, N_gR12, N_hasBeast, N_isAlive, N_calledBy, N_calledByAnybody, N_needTogether, N_workTogether, N_freeOnes, T_cV, T_gI0, T_gI1, T_gI2, T_gI3, T_gR4, T_gR5, T_gR6, T_gR7, T_gR8, T_gR9, T_gR10, T_gR11, T_gR12, T_hasBeast, T_isAlive, T_calledBy, T_calledByAnybody, T_needTogether, T_workTogether, T_freeOnes, N_gA7 w _ hi, N_gA7 w _ hj, hs1, hs2, hab, hv', nI_1, if_true, if_false, not_true_eq_false, not_false_eq_true, Bool.false_eq_true, Bool.true_eq_false, reduceIte, ite_true, ite_false]
      rfl
    · have hv' : ¬ liveK n (kset (kset X.1 7 i (X.1.2.2 7 j)) 7 j (X.1.2.2 7 i)) ≤ s.1 := hv
      rw [if_neg hv]
      simp only [c_X3_exchange_40, le_5 hj, gR_X0, gR_X1, gR_X2, gI_X3, gR_X4, gR_X5, gR_X6, cV_X, x_think, xmind_1, xmind_0, xmind_2, xnow_0, xnow_1, xnow_2, bk_some, bind_some', zb_0, zb_1, zb_or, cc_or, N_cV, N_gI0, N_gI1, N_gI2, N_gI3, N_gR4, N_gR5, N_gR6, N_gR7, N_gR8, N_gR9, N_gR10, N_gR11, N_gR12, N_hasBeast, N_isAlive, N_calledBy, N_calledByAnybody, N_needTogether, N_workTogether, N_freeOnes, T_cV, T_gI0, T_gI1, T_gI2, T_gI3, T_gR4, T_gR5, T_gR6, T_gR7, T_gR8, T_gR9, T_gR10, T_gR11, T_gR12, T_hasBeast, T_isAlive, T_calledBy, T_calledByAnybody, T_needTogether, T_workTogether, T_freeOnes, N_gA7 w _ hi, N_gA7 w _ hj, hs1, hs2, hab, hv', nI_1, if_true, if_false, not_true_eq_false, not_false_eq_true, Bool.false_eq_true, Bool.true_eq_false, reduceIte, ite_true, ite_false]
      rfl
