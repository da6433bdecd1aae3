/-! PURE: exchange, the outer loop and the model -/
theorem exT_skip (n : Nat) (κ : aK) {i : Nat} (hi : i < 5) (s : Int32 × Int32) : itr (exT n κ) (5 * i) (25 - 5 * i) s = itr (exT n κ) (5 * i + (i + 1)) (25 - (5 * i + (i + 1))) s := by
  rw [show 25 - 5 * i = (i + 1) + (25 - (5 * i + (i + 1))) by omega, itr_add]
  rw [itr_same (i + 1) (5 * i) s (fun t h1 h2 => by unfold exT; rw [if_pos (by omega)])]
theorem exX_out (w : aW) {X : aX} (hW : WF X.1) {n : Nat} (hn : n < 1000) : ∀ (c i : Nat) (s : Int32 × Int32) (μ : aK) (f : Nat), i + c = 5 → c < f → ∃ μ', loop4 (c_X3_exchange_28 0 (nI n)) f s.1 s.2 (nI i) (putX w (xmind X μ)) = some ((itr (exT n X.1) (5 * i) (25 - 5 * i) s).2, putX w (xmind X μ'))
  | 0, i, s, μ, f + 1, hc, _ => by
    have : i = 5 := by omega
    subst this
    refine ⟨μ, ?_⟩
    rw [loop4_s]
    simp only [c_X3_exchange_28, show (5 : Int32) ≤ nI 5 by decide, if_true, if_false, not_true_eq_false, not_false_eq_true, Bool.false_eq_true, Bool.true_eq_false, reduceIte, ite_true, ite_false]
    rfl
  | c + 1, i, s, μ, f + 1, hc, hf => by
    have hi : i < 5 := by omega
    obtain ⟨μ', h'⟩ := exX_in w hW hn hi (loop4 (c_X3_exchange_28 0 (nI n)) f) (fun s μ => exX_out w hW hn c (i + 1) s μ f (by omega) (by omega)) (4 - i) (i + 1) s μ a_fuel (by omega) (show 4 - i < 1000 by omega) (by omega)
    refine ⟨μ', ?_⟩
    rw [loop4_s, exT_skip n X.1 hi]
    have hst : ∀ k w', c_X3_exchange_28 0 (nI n) k s.1 s.2 (nI i) w' = loop5 (c_X3_exchange_40 0 (nI n) k) a_fuel s.1 s.2 (nI i) (nI (i + 1)) w' := fun k w' => by
      simp only [c_X3_exchange_28, le_5 hi, nI_1, if_true, if_false, not_true_eq_false, not_false_eq_true, Bool.false_eq_true, Bool.true_eq_false, reduceIte, ite_true, ite_false]
    rw [hst]
    exact h'
theorem x_exchange (w : aW) {X : aX} (hW : WF X.1) (x : Int32) : ∃ μ, f_X3_exchange 0 x (putX w X) = some (exchangeK x X.1, putX w (xmind X μ)) := by
  unfold f_X3_exchange exchangeK
  by_cases h1 : inR x 0 20 = true
  · obtain ⟨m, hm, hx⟩ := least_in h1
    subst hx
    obtain ⟨μ, hμ⟩ := exX_out w hW (show m < 1000 by omega) 5 0 (liveK m X.1, -4) (daysK m X.1) a_fuel rfl (by decide)
    refine ⟨μ, ?_⟩
    simp only [h1, p_within, gR_X0, gR_X1, gR_X2, gI_X3, gR_X4, gR_X5, gR_X6, cV_X, x_think, xmind_1, xmind_0, xmind_2, xnow_0, xnow_1, xnow_2, bk_some, bind_some', zb_0, zb_1, zb_or, cc_or, x_aliveBehind w X hW (show m < 1000 by omega), ix_nI (show m < 2 ^ 31 by omega), if_true, if_false, not_true_eq_false, not_false_eq_true, Bool.false_eq_true, Bool.true_eq_false, reduceIte, ite_true, ite_false]
    exact hμ
  · have h1 := Bool.eq_false_iff.mpr h1
    exact ⟨X.2.1, by simp only [h1, gR_X0, gR_X1, gR_X2, gI_X3, gR_X4, gR_X5, gR_X6, cV_X, x_think, xmind_1, xmind_0, xmind_2, xnow_0, xnow_1, xnow_2, bk_some, bind_some', zb_0, zb_1, zb_or, cc_or, p_within, if_true, if_false, not_true_eq_false, not_false_eq_true, Bool.false_eq_true, Bool.true_eq_false, reduceIte, ite_true, ite_false]; rfl⟩
theorem div5 : ∀ t, t < 25 → nI t / 5 = nI (t / 5) ∧ nI t - nI t / 5 * 5 = nI (t % 5) := by decide
theorem exY (w : aW) {κ : aK} (hW : WF κ) {n : Nat} (hn : n < 1000) : ∀ (c t : Nat) (s : Int32 × Int32) (Y : aY) (f : Nat), t + c = 25 → c < f → Y.1 0 = 0 → Kept Y 8 κ → ∃ Y', Yk Y Y' ∧ loop4 (c_X4_exchange_35 50 (nI n)) f s.2 s.1 (nI t) (putY w κ Y) = some ((itr (exT n κ) t c s).2, putY w κ Y')
  | 0, t, s, Y, f + 1, hc, _, _, _ => by
    have : t = 25 := by omega
    subst this
    refine ⟨Y, Yk.refl Y, ?_⟩
    rw [loop4_s]
    simp only [c_X4_exchange_35, show (25 : Int32) ≤ nI 25 by decide, if_true, if_false, not_true_eq_false, not_false_eq_true, Bool.false_eq_true, Bool.true_eq_false, reduceIte, ite_true, ite_false]
    rfl
  | c + 1, t, s, Y, f + 1, hc, hf, h0, hK => by
    have hk9 := hW.1
    have ht : t < 25 := by omega
    obtain ⟨d1, d2⟩ := div5 t ht
    have hlt : ¬ (25 : Int32) ≤ nI t := nI_ge ht (by decide)
    have hi : t / 5 < 5 := by omega
    have hj : t % 5 < 5 := by omega
    rw [loop4_s]
    show ∃ Y', Yk Y Y' ∧ _ = some ((itr (exT n κ) (t + 1) c (exT n κ t s)).2, _)
    by_cases hsk : t % 5 ≤ t / 5
    · obtain ⟨Y', e', h'⟩ := exY w hW hn c (t + 1) s Y f (by omega) (by omega) h0 hK
      refine ⟨Y', e', ?_⟩
      rw [show exT n κ t s = s from if_pos hsk]
      have hsk' : nI (t % 5) ≤ nI (t / 5) := nI_le hsk (by omega)
      simp only [c_X4_exchange_35, hlt, d1, ← d2, nI_1, if_true, if_false, not_true_eq_false, not_false_eq_true, Bool.false_eq_true, Bool.true_eq_false, reduceIte, ite_true, ite_false]
      rw [← d1, d2, d1, if_pos hsk']
      exact h'
    · have hWs := swap_WF hW hi hj
      obtain ⟨Y1, e1, hK1, hl⟩ := m_liveThen w hk9 Y hWs h0 hK hn
      unfold swapK at hl
      obtain ⟨Y', e', h'⟩ := exY w hW hn c (t + 1) (exF n κ (t / 5) (t % 5) s) Y1 f (by omega) (by omega) (e1.1.1.trans h0) hK1
      refine ⟨Y', e1.trans e', ?_⟩
      rw [show exT n κ t s = exF n κ (t / 5) (t % 5) s from if_neg hsk, ← h']
      have hsk' : ¬ nI (t % 5) ≤ nI (t / 5) := le_nIb (by omega) (by omega) (by omega)
      have hst : ∀ k, c_X4_exchange_35 50 (nI n) k s.2 s.1 (nI t) (putY w κ Y) = k (exF n κ (t / 5) (t % 5) s).2 (exF n κ (t / 5) (t % 5) s).1 (nI (t + 1)) (putY w κ Y1) := fun k => by
        unfold c_X4_exchange_35
        rw [d2, d1]
        unfold exF swapK
        by_cases hv : liveK n (kset (kset κ 7 (t / 5) (κ.2.2 7 (t % 5))) 7 (t % 5) (κ.2.2 7 (t / 5))) ≤ s.1
        · rw [if_pos hv]
          simp only [c_X4_exchange_118, hlt, hsk', gI_Y0, gR_Y1, gR_Y2, gR_Y3, gR_Y4, gR_Y5, gI_Y6, gR_Y7, gR_Y8, gR_Y9, gR_Y10, gI_Y11, gI_Y12, gR_Y13, gR_Y14, gR_Y15, gR_Y16, gR_Y17, gR_Y18, gI_Y19, gI_Y20, gI_Y21, gI_Y22, gI_Y23, gR_Y24, gR_Y25, gR_Y26, gR_Y27, gR_Y28, gI_Y29, gI_Y30, gI_Y31, gR_Y33, gR_Y34, gI_Y35, gR_Y36, cV_Y, bk_some, bind_some', zb_0, zb_1, zb_or, cc_or, kset_1, kset_21, kint_1, kint_21, kint_22, putY_moved, gA_Y58 w κ Y hi, gA_Y58 w κ Y hj, sA_Y58 w κ Y hi, sA_Y58 w _ Y hj, hl, hv, nI_1, if_true, if_false, not_true_eq_false, not_false_eq_true, Bool.false_eq_true, Bool.true_eq_false, reduceIte, ite_true, ite_false]
        · rw [if_neg hv]
          simp only [c_X4_exchange_118, hlt, hsk', gI_Y0, gR_Y1, gR_Y2, gR_Y3, gR_Y4, gR_Y5, gI_Y6, gR_Y7, gR_Y8, gR_Y9, gR_Y10, gI_Y11, gI_Y12, gR_Y13, gR_Y14, gR_Y15, gR_Y16, gR_Y17, gR_Y18, gI_Y19, gI_Y20, gI_Y21, gI_Y22, gI_Y23, gR_Y24, gR_Y25, gR_Y26, gR_Y27, gR_Y28, gI_Y29, gI_Y30, gI_Y31, gR_Y33, gR_Y34, gI_Y35, gR_Y36, cV_Y, bk_some, bind_some', zb_0, zb_1, zb_or, cc_or, kset_1, kset_21, kint_1, kint_21, kint_22, putY_moved, gA_Y58 w κ Y hi, gA_Y58 w κ Y hj, sA_Y58 w κ Y hi, sA_Y58 w _ Y hj, hl, hv, nI_1, if_true, if_false, not_true_eq_false, not_false_eq_true, Bool.false_eq_true, Bool.true_eq_false, reduceIte, ite_true, ite_false]
      rw [hst]
theorem m_exchange (w : aW) (Y : aY) {κ : aK} (hW : WF κ) (hs : Y.1 0 = 0) (x : Int32) : ∃ Y', Yk Y Y' ∧ f_X4_exchange 50 x (putY w κ Y) = some (exchangeK x κ, putY w κ Y') := by
  have hk9 := hW.1
  unfold f_X4_exchange exchangeK
  by_cases h1 : inR x 0 20 = true
  · obtain ⟨m, hm, hx⟩ := least_in h1
    subst hx
    obtain ⟨Y1, e1, hK, ht⟩ := k_think w (yint Y 1 0) hk9
    have hs1 : Y1.1 0 = 0 := e1.1.1.trans hs
    obtain ⟨Y2, e2, hK2, hl⟩ := m_liveThen w hk9 Y1 hW hs1 hK (show m < 1000 by omega)
    obtain ⟨Y3, e3, hr⟩ := exY w hW (show m < 1000 by omega) 25 0 (liveK m κ, -4) Y2 a_fuel rfl (by decide) (e2.1.1.trans hs1) hK2
    refine ⟨Y3, (((Yk.thrown Y 0).trans e1).trans e2).trans e3, ?_⟩
    simp only [p_in32 (x := nI m) (a := 0) (b := 20) (a' := 0) (b' := 20) rfl rfl, h1, sF_Y19, gI_Y0, gR_Y1, gR_Y2, gR_Y3, gR_Y4, gR_Y5, gI_Y6, gR_Y7, gR_Y8, gR_Y9, gR_Y10, gI_Y11, gI_Y12, gR_Y13, gR_Y14, gR_Y15, gR_Y16, gR_Y17, gR_Y18, gI_Y19, gI_Y20, gI_Y21, gI_Y22, gI_Y23, gR_Y24, gR_Y25, gR_Y26, gR_Y27, gR_Y28, gI_Y29, gI_Y30, gI_Y31, gR_Y33, gR_Y34, gI_Y35, gR_Y36, cV_Y, bk_some, bind_some', zb_0, zb_1, zb_or, cc_or, kset_1, kset_21, kint_1, kint_21, kint_22, putY_moved, ht, hl, ix_nI (show m < 2 ^ 31 by omega), if_true, if_false, not_true_eq_false, not_false_eq_true, Bool.false_eq_true, Bool.true_eq_false, reduceIte, ite_true, ite_false]
    exact hr
  · have h1 := Bool.eq_false_iff.mpr h1
    refine ⟨yint Y 1 0, Yk.thrown Y 0, ?_⟩
    simp only [p_in32 (x := x) (a := 0) (b := 20) (a' := 0) (b' := 20) rfl rfl, h1, sF_Y19, gI_Y0, gR_Y1, gR_Y2, gR_Y3, gR_Y4, gR_Y5, gI_Y6, gR_Y7, gR_Y8, gR_Y9, gR_Y10, gI_Y11, gI_Y12, gR_Y13, gR_Y14, gR_Y15, gR_Y16, gR_Y17, gR_Y18, gI_Y19, gI_Y20, gI_Y21, gI_Y22, gI_Y23, gR_Y24, gR_Y25, gR_Y26, gR_Y27, gR_Y28, gI_Y29, gI_Y30, gI_Y31, gR_Y33, gR_Y34, gI_Y35, gR_Y36, cV_Y, bk_some, bind_some', zb_0, zb_1, zb_or, cc_or, kset_1, kset_21, kint_1, kint_21, kint_22, putY_moved, if_true, if_false, not_true_eq_false, not_false_eq_true, Bool.false_eq_true, Bool.true_eq_false, reduceIte, ite_true, ite_false]
