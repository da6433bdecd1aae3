/-! PURE: copy at the model; two, at both sides -/
theorem m_copy (w : aW) (κ : aK) {Y : aY} {σ : Nat → aS} (hC : Cp σ Y) (x i y j n : Int32) : ∃ Y', Yim Y Y' ∧ Cp (copyK x i y j n σ).2 Y' ∧ f_X4_copy 50 x i y j n (putY w κ Y) = some ((copyK x i y j n σ).1, putY w κ Y') := by
  have hC' := hC.thr 0
  have hno : ∀ r : Int32, ∃ Y', Yim Y Y' ∧ Cp σ Y' ∧ some (r, putY w κ (yint Y 1 0)) = some (r, putY w κ Y') := fun r => ⟨_, Yim.thr Y 0, hC', rfl⟩
  have e1 := p_in32 (x := x) (a := 0) (b := 7) (a' := 0) (b' := 7) rfl rfl
  have e2 := p_in32 (x := y) (a := 0) (b := 7) (a' := 0) (b' := 7) rfl rfl
  unfold f_X4_copy copyK
  by_cases h1 : inR x 0 7 = true
  · by_cases h2 : inR y 0 7 = true
    · obtain ⟨d, hd, rfl⟩ := in7 h1
      obtain ⟨e, he, rfl⟩ := in7 h2
      obtain ⟨hν, hY⟩ := hC' d hd
      obtain ⟨hν2, hY2⟩ := hC' e he
      by_cases h3 : (σ d).1 0 = 0
      · simp only [h1, h2, h3, e1, e2, sF_Y19, gA_Y60 w κ _ hd, hY.1, ix7 hd, gI_Y0, gR_Y1, gR_Y2, gR_Y3, gR_Y4, gR_Y5, gI_Y6, gR_Y7, gR_Y8, gR_Y9, gR_Y10, gI_Y11, gI_Y12, gR_Y13, gR_Y14, gR_Y15, gR_Y16, gR_Y17, gR_Y18, gI_Y19, gI_Y20, gI_Y21, gI_Y22, gI_Y23, gR_Y24, gR_Y25, gR_Y26, gR_Y27, gR_Y28, gI_Y29, gI_Y30, gI_Y31, gR_Y33, gR_Y34, gI_Y35, gR_Y36, cV_Y, bk_some, bind_some', zb_0, zb_1, zb_or, cc_or, kset_1, kset_21, kint_1, kint_21, kint_22, putY_moved, if_true, if_false, not_true_eq_false, not_false_eq_true, Bool.false_eq_true, Bool.true_eq_false, reduceIte, ite_true, ite_false]
        exact hno _
      by_cases h4 : (σ e).1 0 = 0
      · simp only [h1, h2, h3, h4, e1, e2, sF_Y19, gA_Y60 w κ _ hd, gA_Y60 w κ _ he, hY.1, hY2.1, ix7 hd, ix7 he, gI_Y0, gR_Y1, gR_Y2, gR_Y3, gR_Y4, gR_Y5, gI_Y6, gR_Y7, gR_Y8, gR_Y9, gR_Y10, gI_Y11, gI_Y12, gR_Y13, gR_Y14, gR_Y15, gR_Y16, gR_Y17, gR_Y18, gI_Y19, gI_Y20, gI_Y21, gI_Y22, gI_Y23, gR_Y24, gR_Y25, gR_Y26, gR_Y27, gR_Y28, gI_Y29, gI_Y30, gI_Y31, gR_Y33, gR_Y34, gI_Y35, gR_Y36, cV_Y, bk_some, bind_some', zb_0, zb_1, zb_or, cc_or, kset_1, kset_21, kint_1, kint_21, kint_22, putY_moved, if_true, if_false, not_true_eq_false, not_false_eq_true, Bool.false_eq_true, Bool.true_eq_false, reduceIte, ite_true, ite_false]
        exact hno _
      by_cases h5 : (σ d).1 0 = 2
      · by_cases h6 : (σ e).1 0 = 2
        · obtain ⟨hk, hsz, hel⟩ := hY.2.2 h5
          obtain ⟨hk2, hsz2, hel2⟩ := hY2.2.2 h6
          by_cases h7 : (σ d).1 3 = (σ e).1 3
          · obtain ⟨N, hN, hz⟩ := hν.2.1
            obtain ⟨N', hN', hz'⟩ := hν2.2.1
            have hm1 := str_model hN hz i n
            have hm2 := str_model hN' hz' j n
            by_cases h8 : strB (σ d) i n = true
            · by_cases h9 : strB (σ e) j n = true
              · have h8' := h8
                have h9' := h9
                rw [hm1, Bool.and_eq_true, Bool.and_eq_true] at h8'
                rw [hm2, Bool.and_eq_true, Bool.and_eq_true] at h9'
                obtain ⟨g1, g2, g3⟩ := h8'
                obtain ⟨-, g4, g5⟩ := h9'
                have q1 : ¬ n < 0 := of_decide_eq_false (Bool.eq_false_iff.mpr (fun z => by rw [z] at g1; cases g1))
                have q2 : ¬ i < 0 := of_decide_eq_false (Bool.eq_false_iff.mpr (fun z => by rw [z] at g2; cases g2))
                have q3 : ¬ nI N - n < i := of_decide_eq_false (Bool.eq_false_iff.mpr (fun z => by rw [z] at g3; cases g3))
                have q4 : ¬ j < 0 := of_decide_eq_false (Bool.eq_false_iff.mpr (fun z => by rw [z] at g4; cases g4))
                have q5 : ¬ nI N' - n < j := of_decide_eq_false (Bool.eq_false_iff.mpr (fun z => by rw [z] at g5; cases g5))
                have q5' := Int32.not_lt.mp q5
                obtain ⟨a, m, ham, hia, hnm⟩ := str_out hN hz h8
                obtain ⟨c, m', hcm, hjc, hmm⟩ := str_out hN' hz' h9
                subst hia hjc hnm
                have hm5 : ∀ M, M ≤ 100 → ∀ q, q + m ≤ M → m < 2 ^ 31 := fun M _ q _ => by omega
                have hmN := hm5 N hN a ham
                have hcN : c + m ≤ N' := by
                  by_cases hmb : m' < 2 ^ 31
                  · rw [nI_eq hmN hmb] at hmm; omega
                  · omega
                refine ⟨yput (ybtw (yint Y 1 0) (100 * d + a) m 0) (ybtw (yint Y 1 0) (100 * d + a) m 0).2.2.2.2.1 (100 * e + c) m 0, (Yim.thr Y 0).trans ⟨rfl, rfl, rfl⟩, ?_, ?_⟩
                · rw [if_pos h1, if_pos h2, ix7 hd, ix7 he, if_neg h3, if_neg h4, if_neg (fun z => z h5), if_neg (fun z => z h6), if_neg (fun z => z h7), if_pos h8, if_pos h9, ix_nI (by omega), ix_nI (by omega), ix_nI (by omega)]
                  refine hC'.put he (hν2.sel _) ⟨hY2.1, hY2.2.1, fun _ => ⟨hk2, hsz2, fun z hz100 => ?_⟩⟩ (fun _ _ _ _ => rfl) (fun d' hd' hne z hz100 => ?_)
                  · show (if 100 * e + c + 0 ≤ 100 * e + z ∧ 100 * e + z < 100 * e + c + m then (if 0 ≤ 100 * e + z - (100 * e + c) ∧ 100 * e + z - (100 * e + c) < m then Y.2.2.2.1 (100 * d + a + (100 * e + z - (100 * e + c))) else Y.2.2.2.2.1 (100 * e + z - (100 * e + c))) else Y.2.2.2.1 (100 * e + z)) = (if c ≤ z ∧ z < c + m then (σ d).2 (a + (z - c)) else (σ e).2 z).toInt64
                    by_cases hc : c ≤ z ∧ z < c + m
                    · rw [if_pos (by omega), if_pos (by omega), if_pos hc, show 100 * d + a + (100 * e + z - (100 * e + c)) = 100 * d + (a + (z - c)) by omega]
                      exact hel (a + (z - c)) (by omega)
                    · rw [if_neg (by omega), if_neg hc]
                      exact hel2 z hz100
                  · show (if 100 * e + c + 0 ≤ 100 * d' + z ∧ 100 * d' + z < 100 * e + c + m then _ else Y.2.2.2.1 (100 * d' + z)) = _
                    rw [if_neg (by omega)]
                    rfl
                · have hl := m_copy1 w κ (d := d) (a := a) (e := e) (j := c) (n := m) hd (by omega) he (by omega) m 0 (yint Y 1 0) a_fuel (by omega) (show m < 1000 by omega)
                  simp only [h1, h2, h3, h4, h5, h6, h7, h8, h9, e1, e2, sF_Y19, gA_Y60 w κ _ hd, gA_Y60 w κ _ he, gA_Y63 w κ _ hd, gA_Y63 w κ _ he, gA_Y64 w κ _ hd, gA_Y64 w κ _ he, hY.1, hY2.1, hk, hk2, hsz, hsz2, hz, hz', q1, q2, q3, q4, q5', show ¬ (2 : Int32) = 0 by decide, ix7 hd, ix7 he, gI_Y0, gR_Y1, gR_Y2, gR_Y3, gR_Y4, gR_Y5, gI_Y6, gR_Y7, gR_Y8, gR_Y9, gR_Y10, gI_Y11, gI_Y12, gR_Y13, gR_Y14, gR_Y15, gR_Y16, gR_Y17, gR_Y18, gI_Y19, gI_Y20, gI_Y21, gI_Y22, gI_Y23, gR_Y24, gR_Y25, gR_Y26, gR_Y27, gR_Y28, gI_Y29, gI_Y30, gI_Y31, gR_Y33, gR_Y34, gI_Y35, gR_Y36, cV_Y, bk_some, bind_some', zb_0, zb_1, zb_or, cc_or, kset_1, kset_21, kint_1, kint_21, kint_22, putY_moved, if_true, if_false, not_true_eq_false, not_false_eq_true, Bool.false_eq_true, Bool.true_eq_false, reduceIte, ite_true, ite_false]
                  exact hl
              · have hj5 : n < 0 ∨ j < 0 ∨ nI N' - n < j := by
                  by_cases q1 : n < 0
                  · exact Or.inl q1
                  · by_cases q4 : j < 0
                    · exact Or.inr (Or.inl q4)
                    · by_cases q5 : nI N' - n < j
                      · exact Or.inr (Or.inr q5)
                      · rw [hm2, decide_eq_false q1, decide_eq_false q4, decide_eq_false q5] at h9
                        exact absurd rfl h9
                have h9 := Bool.eq_false_iff.mpr h9
                simp only [h1, h2, h3, h4, h5, h6, h7, h8, h9, e1, e2, sF_Y19, gA_Y60 w κ _ hd, gA_Y60 w κ _ he, gA_Y63 w κ _ hd, gA_Y63 w κ _ he, hY.1, hY2.1, hk, hk2, show ¬ (2 : Int32) = 0 by decide, ix7 hd, ix7 he, gI_Y0, gR_Y1, gR_Y2, gR_Y3, gR_Y4, gR_Y5, gI_Y6, gR_Y7, gR_Y8, gR_Y9, gR_Y10, gI_Y11, gI_Y12, gR_Y13, gR_Y14, gR_Y15, gR_Y16, gR_Y17, gR_Y18, gI_Y19, gI_Y20, gI_Y21, gI_Y22, gI_Y23, gR_Y24, gR_Y25, gR_Y26, gR_Y27, gR_Y28, gI_Y29, gI_Y30, gI_Y31, gR_Y33, gR_Y34, gI_Y35, gR_Y36, cV_Y, bk_some, bind_some', zb_0, zb_1, zb_or, cc_or, kset_1, kset_21, kint_1, kint_21, kint_22, putY_moved, if_true, if_false, not_true_eq_false, not_false_eq_true, Bool.false_eq_true, Bool.true_eq_false, reduceIte, ite_true, ite_false]
                by_cases q1 : n < 0
                · rw [if_pos q1]; exact hno _
                · rw [if_neg q1]
                  by_cases q2 : i < 0
                  · rw [if_pos q2]; exact hno _
                  · rw [if_neg q2]
                    by_cases q4 : j < 0
                    · rw [if_pos q4]; exact hno _
                    · rw [if_neg q4]
                      have q5 := (hj5.resolve_left q1).resolve_left q4
                      simp only [gA_Y64 w κ _ hd, gA_Y64 w κ _ he, gI_Y0, gR_Y1, gR_Y2, gR_Y3, gR_Y4, gR_Y5, gI_Y6, gR_Y7, gR_Y8, gR_Y9, gR_Y10, gI_Y11, gI_Y12, gR_Y13, gR_Y14, gR_Y15, gR_Y16, gR_Y17, gR_Y18, gI_Y19, gI_Y20, gI_Y21, gI_Y22, gI_Y23, gR_Y24, gR_Y25, gR_Y26, gR_Y27, gR_Y28, gI_Y29, gI_Y30, gI_Y31, gR_Y33, gR_Y34, gI_Y35, gR_Y36, cV_Y, bk_some, bind_some', zb_0, zb_1, zb_or, cc_or, kset_1, kset_21, kint_1, kint_21, kint_22, putY_moved, hsz, hsz2, hz, hz', Int32.not_le.mpr q5, if_true, if_false, not_true_eq_false, not_false_eq_true, Bool.false_eq_true, Bool.true_eq_false, reduceIte, ite_true, ite_false]
                      by_cases q3 : nI N - n < i
                      · rw [if_pos q3]; exact hno _
                      · rw [if_neg q3]; exact hno _
            · have hj5 : n < 0 ∨ i < 0 ∨ nI N - n < i := by
                by_cases q1 : n < 0
                · exact Or.inl q1
                · by_cases q4 : i < 0
                  · exact Or.inr (Or.inl q4)
                  · by_cases q5 : nI N - n < i
                    · exact Or.inr (Or.inr q5)
                    · rw [hm1, decide_eq_false q1, decide_eq_false q4, decide_eq_false q5] at h8
                      exact absurd rfl h8
              have h8 := Bool.eq_false_iff.mpr h8
              simp only [h1, h2, h3, h4, h5, h6, h7, h8, e1, e2, sF_Y19, gA_Y60 w κ _ hd, gA_Y60 w κ _ he, gA_Y63 w κ _ hd, gA_Y63 w κ _ he, hY.1, hY2.1, hk, hk2, show ¬ (2 : Int32) = 0 by decide, ix7 hd, ix7 he, gI_Y0, gR_Y1, gR_Y2, gR_Y3, gR_Y4, gR_Y5, gI_Y6, gR_Y7, gR_Y8, gR_Y9, gR_Y10, gI_Y11, gI_Y12, gR_Y13, gR_Y14, gR_Y15, gR_Y16, gR_Y17, gR_Y18, gI_Y19, gI_Y20, gI_Y21, gI_Y22, gI_Y23, gR_Y24, gR_Y25, gR_Y26, gR_Y27, gR_Y28, gI_Y29, gI_Y30, gI_Y31, gR_Y33, gR_Y34, gI_Y35, gR_Y36, cV_Y, bk_some, bind_some', zb_0, zb_1, zb_or, cc_or, kset_1, kset_21, kint_1, kint_21, kint_22, putY_moved, if_true, if_false, not_true_eq_false, not_false_eq_true, Bool.false_eq_true, Bool.true_eq_false, reduceIte, ite_true, ite_false]
              by_cases q1 : n < 0
              · rw [if_pos q1]; exact hno _
              · rw [if_neg q1]
                by_cases q2 : i < 0
                · rw [if_pos q2]; exact hno _
                · rw [if_neg q2]
                  have q3 := (hj5.resolve_left q1).resolve_left q2
                  by_cases q4 : j < 0
                  · rw [if_pos q4]; exact hno _
                  · rw [if_neg q4]
                    simp only [gA_Y64 w κ _ hd, gI_Y0, gR_Y1, gR_Y2, gR_Y3, gR_Y4, gR_Y5, gI_Y6, gR_Y7, gR_Y8, gR_Y9, gR_Y10, gI_Y11, gI_Y12, gR_Y13, gR_Y14, gR_Y15, gR_Y16, gR_Y17, gR_Y18, gI_Y19, gI_Y20, gI_Y21, gI_Y22, gI_Y23, gR_Y24, gR_Y25, gR_Y26, gR_Y27, gR_Y28, gI_Y29, gI_Y30, gI_Y31, gR_Y33, gR_Y34, gI_Y35, gR_Y36, cV_Y, bk_some, bind_some', zb_0, zb_1, zb_or, cc_or, kset_1, kset_21, kint_1, kint_21, kint_22, putY_moved, hsz, hz, q3, if_true, if_false, not_true_eq_false, not_false_eq_true, Bool.false_eq_true, Bool.true_eq_false, reduceIte, ite_true, ite_false]
                    exact hno _
          · simp only [h1, h2, h3, h4, h5, h6, h7, e1, e2, sF_Y19, gA_Y60 w κ _ hd, gA_Y60 w κ _ he, gA_Y63 w κ _ hd, gA_Y63 w κ _ he, hY.1, hY2.1, hk, hk2, show ¬ (2 : Int32) = 0 by decide, ix7 hd, ix7 he, gI_Y0, gR_Y1, gR_Y2, gR_Y3, gR_Y4, gR_Y5, gI_Y6, gR_Y7, gR_Y8, gR_Y9, gR_Y10, gI_Y11, gI_Y12, gR_Y13, gR_Y14, gR_Y15, gR_Y16, gR_Y17, gR_Y18, gI_Y19, gI_Y20, gI_Y21, gI_Y22, gI_Y23, gR_Y24, gR_Y25, gR_Y26, gR_Y27, gR_Y28, gI_Y29, gI_Y30, gI_Y31, gR_Y33, gR_Y34, gI_Y35, gR_Y36, cV_Y, bk_some, bind_some', zb_0, zb_1, zb_or, cc_or, kset_1, kset_21, kint_1, kint_21, kint_22, putY_moved, if_true, if_false, not_true_eq_false, not_false_eq_true, Bool.false_eq_true, Bool.true_eq_false, reduceIte, ite_true, ite_false]
            exact hno _
        · simp only [h1, h2, h3, h4, h5, h6, e1, e2, sF_Y19, gA_Y60 w κ _ hd, gA_Y60 w κ _ he, hY.1, hY2.1, show ¬ (2 : Int32) = 0 by decide, ix7 hd, ix7 he, gI_Y0, gR_Y1, gR_Y2, gR_Y3, gR_Y4, gR_Y5, gI_Y6, gR_Y7, gR_Y8, gR_Y9, gR_Y10, gI_Y11, gI_Y12, gR_Y13, gR_Y14, gR_Y15, gR_Y16, gR_Y17, gR_Y18, gI_Y19, gI_Y20, gI_Y21, gI_Y22, gI_Y23, gR_Y24, gR_Y25, gR_Y26, gR_Y27, gR_Y28, gI_Y29, gI_Y30, gI_Y31, gR_Y33, gR_Y34, gI_Y35, gR_Y36, cV_Y, bk_some, bind_some', zb_0, zb_1, zb_or, cc_or, kset_1, kset_21, kint_1, kint_21, kint_22, putY_moved, if_true, if_false, not_true_eq_false, not_false_eq_true, Bool.false_eq_true, Bool.true_eq_false, reduceIte, ite_true, ite_false]
          exact hno _
      · simp only [h1, h2, h3, h4, h5, e1, e2, sF_Y19, gA_Y60 w κ _ hd, gA_Y60 w κ _ he, hY.1, hY2.1, ix7 hd, ix7 he, gI_Y0, gR_Y1, gR_Y2, gR_Y3, gR_Y4, gR_Y5, gI_Y6, gR_Y7, gR_Y8, gR_Y9, gR_Y10, gI_Y11, gI_Y12, gR_Y13, gR_Y14, gR_Y15, gR_Y16, gR_Y17, gR_Y18, gI_Y19, gI_Y20, gI_Y21, gI_Y22, gI_Y23, gR_Y24, gR_Y25, gR_Y26, gR_Y27, gR_Y28, gI_Y29, gI_Y30, gI_Y31, gR_Y33, gR_Y34, gI_Y35, gR_Y36, cV_Y, bk_some, bind_some', zb_0, zb_1, zb_or, cc_or, kset_1, kset_21, kint_1, kint_21, kint_22, putY_moved, if_true, if_false, not_true_eq_false, not_false_eq_true, Bool.false_eq_true, Bool.true_eq_false, reduceIte, ite_true, ite_false]
        exact hno _
    · have h2 := Bool.eq_false_iff.mpr h2
      simp only [h1, h2, e1, e2, sF_Y19, gI_Y0, gR_Y1, gR_Y2, gR_Y3, gR_Y4, gR_Y5, gI_Y6, gR_Y7, gR_Y8, gR_Y9, gR_Y10, gI_Y11, gI_Y12, gR_Y13, gR_Y14, gR_Y15, gR_Y16, gR_Y17, gR_Y18, gI_Y19, gI_Y20, gI_Y21, gI_Y22, gI_Y23, gR_Y24, gR_Y25, gR_Y26, gR_Y27, gR_Y28, gI_Y29, gI_Y30, gI_Y31, gR_Y33, gR_Y34, gI_Y35, gR_Y36, cV_Y, bk_some, bind_some', zb_0, zb_1, zb_or, cc_or, kset_1, kset_21, kint_1, kint_21, kint_22, putY_moved, if_true, if_false, not_true_eq_false, not_false_eq_true, Bool.false_eq_true, Bool.true_eq_false, reduceIte, ite_true, ite_false]
      exact hno _
  · have h1 := Bool.eq_false_iff.mpr h1
    simp only [h1, e1, sF_Y19, gI_Y0, gR_Y1, gR_Y2, gR_Y3, gR_Y4, gR_Y5, gI_Y6, gR_Y7, gR_Y8, gR_Y9, gR_Y10, gI_Y11, gI_Y12, gR_Y13, gR_Y14, gR_Y15, gR_Y16, gR_Y17, gR_Y18, gI_Y19, gI_Y20, gI_Y21, gI_Y22, gI_Y23, gR_Y24, gR_Y25, gR_Y26, gR_Y27, gR_Y28, gI_Y29, gI_Y30, gI_Y31, gR_Y33, gR_Y34, gI_Y35, gR_Y36, cV_Y, bk_some, bind_some', zb_0, zb_1, zb_or, cc_or, kset_1, kset_21, kint_1, kint_21, kint_22, putY_moved, if_true, if_false, not_true_eq_false, not_false_eq_true, Bool.false_eq_true, Bool.true_eq_false, reduceIte, ite_true, ite_false]
    exact hno _
/-! two -/
def twoS (κ : aK) (a b i : Nat) : aK := kset (kset κ 7 a (if i / 2 = 1 then κ.2.2 7 a else 0)) 7 b (if i % 2 = 1 then κ.2.2 7 b else 0)
def gainK (κ κ' : aK) (p : Nat) : Int32 := κ'.2.2 5 p - 5 * (κ'.2.2 8 p - κ.2.2 8 p)
def oneK (κ : aK) (a b n i : Nat) : Int32 := gainK κ (daysK n (twoS κ a b i)) a
def othK (κ : aK) (a b n i : Nat) : Int32 := gainK κ (daysK n (twoS κ a b i)) b
def x2 (i : Nat) : Nat := if i < 2 then i + 2 else i - 2
def x1 (i : Nat) : Nat := if i % 2 = 0 then i + 1 else i - 1
def twoI (i : Nat) : Int32 := 10 * (nI i / 2) + (nI i - nI i / 2 * 2)
def twoQ (f g : Nat → Int32) (i : Nat) : Bool := !decide (f i < f (x2 i)) && !decide (g i < g (x1 i))
def twoR (f g : Nat → Int32) (m i : Nat) : Int32 := (fndK (twoQ f g) i m).elim (-4) twoI
def twoK (x y n : Int32) (κ : aK) : Int32 := if inR x 0 4 = true then (if inR y 0 4 = true then (if x = y then -1 else if inR n 1 30 = true then twoR (oneK κ (ix x) (ix y) (ix n)) (othK κ (ix x) (ix y) (ix n)) 4 0 else -1) else -1) else -1
theorem two_WF {κ : aK} (hW : WF κ) {a b : Nat} (ha : a < 5) (hb : b < 5) (i : Nat) : WF (twoS κ a b i) := by
  obtain ⟨t, ht, et⟩ := (hW.2.2.1 a ha).2.2.1
  obtain ⟨u, hu, eu⟩ := (hW.2.2.1 b hb).2.2.1
  have h1 : WF (kset κ 7 a (if i / 2 = 1 then κ.2.2 7 a else 0)) := by
    split
    · rw [et]; exact hW.speech ht
    · exact hW.speech (x := 0) (by decide)
  unfold twoS
  by_cases h : i % 2 = 1
  · rw [if_pos h, eu]; exact h1.speech hu
  · rw [if_neg h]; exact h1.speech (x := 0) (by decide)
theorem in30 {x : Int32} (h : inR x 1 30 = true) : ∃ n, n ≤ 30 ∧ x = nI n := by
  unfold inR at h
  rw [Bool.and_eq_true, decide_eq_true_eq, decide_eq_true_eq] at h
  refine inR_nI (n := 30) (by decide) ?_
  unfold inR
  rw [decide_eq_true (Int32.le_trans (by decide) h.1), decide_eq_true (show x ≤ nI 30 from h.2)]
  rfl
theorem ia_X32 (w : aW) (X : aX) : a_ia (putX w X) 32 = some (4, X.2.2.2.2.2.1) := Eq.trans rfl rfl
theorem ia_X33 (w : aW) (X : aX) : a_ia (putX w X) 33 = some (4, X.2.2.2.2.2.2) := Eq.trans rfl rfl
theorem gA_X32 (w : aW) (X : aX) {i : Nat} (hi : i < 4) : gA (putX w X) 32 (nI i) = some (X.2.2.2.2.2.1 i) := by
  unfold gA
  rw [ia_X32]
  simp only [Option.bind_some]
  rw [if_neg (ix_ok hi (by decide)), nI_clamp (by omega)]
theorem gA_X33 (w : aW) (X : aX) {i : Nat} (hi : i < 4) : gA (putX w X) 33 (nI i) = some (X.2.2.2.2.2.2 i) := by
  unfold gA
  rw [ia_X33]
  simp only [Option.bind_some]
  rw [if_neg (ix_ok hi (by decide)), nI_clamp (by omega)]
theorem up_X32 (w : aW) (X : aX) (f : Nat → Int32) : a_up (putX w X) 32 (.inl (0, 4, .inl f)) = putX w (xone X f) := by
  funext i
  unfold a_up putX
  by_cases h : i = 32
  · subst h; rfl
  · rw [if_neg h]
    rw [if_neg h, if_neg h]
    rfl
theorem up_X33 (w : aW) (X : aX) (f : Nat → Int32) : a_up (putX w X) 33 (.inl (0, 4, .inl f)) = putX w (xoth X f) := by
  funext i
  unfold a_up putX
  by_cases h : i = 33
  · subst h; rfl
  · rw [if_neg h]
    rw [if_neg h, if_neg h]
    rfl
theorem sA_X32 (w : aW) (X : aX) {i : Nat} (hi : i < 4) (x : Int32) : sA (putX w X) 32 (nI i) x = some (putX w (xone X (upd X.2.2.2.2.2.1 i x))) := by
  unfold sA
  rw [ia_X32]
  simp only [Option.bind_some]
  rw [if_neg (ix_ok hi (by decide)), nI_clamp (by omega), up_X32]
theorem sA_X33 (w : aW) (X : aX) {i : Nat} (hi : i < 4) (x : Int32) : sA (putX w X) 33 (nI i) x = some (putX w (xoth X (upd X.2.2.2.2.2.2 i x))) := by
  unfold sA
  rw [ia_X33]
  simp only [Option.bind_some]
  rw [if_neg (ix_ok hi (by decide)), nI_clamp (by omega), up_X33]
/-- the object with other things in mind -/
def xtw (X : aX) (μ : aK) (f g : Nat → Int32) : aX := (X.1, μ, X.2.2.1, X.2.2.2.1, X.2.2.2.2.1, f, g)
theorem xtw_m (X : aX) (μ μ' : aK) (f g : Nat → Int32) : xmind (xtw X μ f g) μ' = xtw X μ' f g := rfl
theorem xtw_1 (X : aX) (μ : aK) (f g h : Nat → Int32) : xone (xtw X μ f g) h = xtw X μ h g := rfl
theorem xtw_2 (X : aX) (μ : aK) (f g h : Nat → Int32) : xoth (xtw X μ f g) h = xtw X μ f h := rfl
theorem xtw_x1 (X : aX) (μ : aK) (f g : Nat → Int32) : (xtw X μ f g).1 = X.1 := rfl
theorem xtw_x2 (X : aX) (μ : aK) (f g : Nat → Int32) : (xtw X μ f g).2.1 = μ := rfl
theorem xtw_xf (X : aX) (μ : aK) (f g : Nat → Int32) : (xtw X μ f g).2.2.2.2.2.1 = f := rfl
theorem xtw_xg (X : aX) (μ : aK) (f g : Nat → Int32) : (xtw X μ f g).2.2.2.2.2.2 = g := rfl
theorem x_gain (w : aW) (X : aX) (κ : aK) (f g : Nat → Int32) {p : Nat} (hp : p < 5) : f_X3_meansLessGrief 0 (nI p) (putX w (xtw X κ f g)) = some (gainK X.1 κ p, putX w (xtw X κ f g)) := by
  unfold f_X3_meansLessGrief
  simp only [gR_X0, gR_X1, gR_X2, gI_X3, gR_X4, gR_X5, gR_X6, cV_X, x_think, xmind_1, xmind_0, xmind_2, xnow_0, xnow_1, xnow_2, bk_some, bind_some', zb_0, zb_1, zb_or, cc_or, N_cV, N_gI0, N_gI1, N_gI2, N_gI3, N_gR4, N_gR5, N_gR6, N_gR7, N_gR8, N_gR9, N_gR10, N_gR11, N_gR12, N_hasBeast, N_isAlive, N_calledBy, N_calledByAnybody, N_needTogether, N_workTogether, N_freeOnes, T_cV, T_gI0, T_gI1, T_gI2, T_gI3, T_gR4, T_gR5, T_gR6, T_gR7, T_gR8, T_gR9, T_gR10, T_gR11, T_gR12, T_hasBeast, T_isAlive, T_calledBy, T_calledByAnybody, T_needTogether, T_workTogether, T_freeOnes, N_gA8 w _ hp, T_gA5 w _ hp, T_gA8 w _ hp]
  rfl
theorem half_4 : ∀ i, i < 4 → ((nI i / 2 = 1) = (i / 2 = 1)) ∧ ((nI i - nI i / 2 * 2 = 1) = (i % 2 = 1)) := by
  intro i hi
  rcases (show i = 0 ∨ i = 1 ∨ i = 2 ∨ i = 3 by omega) with rfl | rfl | rfl | rfl <;> exact ⟨propext (by decide), propext (by decide)⟩
theorem xor_4 : ∀ i, i < 4 → nI i ^^^ 2 = nI (x2 i) ∧ nI i ^^^ 1 = nI (x1 i) ∧ x2 i < 4 ∧ x1 i < 4 := by decide
theorem lt_4 {i : Nat} (h : i < 4) : ¬ (4 : Int32) ≤ nI i := nI_ge h (by decide)
theorem two_stepX (w : aW) {X : aX} (hW : WF X.1) {a b n i : Nat} (ha : a < 5) (hb : b < 5) (hn : n < 1000) (hi : i < 4) (μ : aK) (f g : Nat → Int32) : ∃ μ', ∀ k, c_X3_two_34 0 (nI a) (nI b) (nI n) k (nI i) (putX w (xtw X μ f g)) = k (nI (i + 1)) (putX w (xtw X μ' (upd f i (oneK X.1 a b n i)) (upd g i (othK X.1 a b n i)))) := by
  refine ⟨daysK n (twoS X.1 a b i), fun k => ?_⟩
  obtain ⟨q1, q2⟩ := half_4 i hi
  have hs := fun (κ : aK) {p : Nat} (hp : p < 5) (x : Int32) => T_sA w (xtw X κ f g) 7 (by decide) (i := p) hp x
  simp only [Nat.reduceAdd, xtw_m, xtw_x2] at hs
  have hpd := T_passDays w (X := xtw X (twoS X.1 a b i) f g) (two_WF hW ha hb i) hn
  unfold twoS at hpd
  unfold oneK othK twoS
  by_cases h1 : i / 2 = 1
  · by_cases h2 : i % 2 = 1
    · simp only [h1, h2, if_true] at hpd ⊢
      simp only [c_X3_two_34, c_X3_two_73, c_X3_two_103, lt_4 hi, gR_X0, gR_X1, gR_X2, gI_X3, gR_X4, gR_X5, gR_X6, cV_X, x_think, xmind_1, xmind_0, xmind_2, xnow_0, xnow_1, xnow_2, bk_some, bind_some', zb_0, zb_1, zb_or, cc_or, N_cV, N_gI0, N_gI1, N_gI2, N_gI3, N_gR4, N_gR5, N_gR6, N_gR7, N_gR8, N_gR9, N_gR10, N_gR11, N_gR12, N_hasBeast, N_isAlive, N_calledBy, N_calledByAnybody, N_needTogether, N_workTogether, N_freeOnes, T_cV, T_gI0, T_gI1, T_gI2, T_gI3, T_gR4, T_gR5, T_gR6, T_gR7, T_gR8, T_gR9, T_gR10, T_gR11, T_gR12, T_hasBeast, T_isAlive, T_calledBy, T_calledByAnybody, T_needTogether, T_workTogether, T_freeOnes, xtw_m, xtw_x1, xtw_x2, xtw_1, xtw_2, xtw_xf, xtw_xg, q1, q2, h1, h2, N_gA7 w _ ha, N_gA7 w _ hb, hs _ ha, hs _ hb, hpd, x_gain w X _ _ _ ha, x_gain w X _ _ _ hb, sA_X32 w _ hi, sA_X33 w _ hi, nI_1, if_true, if_false, not_true_eq_false, not_false_eq_true, Bool.false_eq_true, Bool.true_eq_false, reduceIte, ite_true, ite_false]
    · simp only [h1, h2, if_true, if_false] at hpd ⊢
      simp only [c_X3_two_34, c_X3_two_73, c_X3_two_103, lt_4 hi, gR_X0, gR_X1, gR_X2, gI_X3, gR_X4, gR_X5, gR_X6, cV_X, x_think, xmind_1, xmind_0, xmind_2, xnow_0, xnow_1, xnow_2, bk_some, bind_some', zb_0, zb_1, zb_or, cc_or, N_cV, N_gI0, N_gI1, N_gI2, N_gI3, N_gR4, N_gR5, N_gR6, N_gR7, N_gR8, N_gR9, N_gR10, N_gR11, N_gR12, N_hasBeast, N_isAlive, N_calledBy, N_calledByAnybody, N_needTogether, N_workTogether, N_freeOnes, T_cV, T_gI0, T_gI1, T_gI2, T_gI3, T_gR4, T_gR5, T_gR6, T_gR7, T_gR8, T_gR9, T_gR10, T_gR11, T_gR12, T_hasBeast, T_isAlive, T_calledBy, T_calledByAnybody, T_needTogether, T_workTogether, T_freeOnes, xtw_m, xtw_x1, xtw_x2, xtw_1, xtw_2, xtw_xf, xtw_xg, q1, q2, h1, h2, N_gA7 w _ ha, hs _ ha, hs _ hb, hpd, x_gain w X _ _ _ ha, x_gain w X _ _ _ hb, sA_X32 w _ hi, sA_X33 w _ hi, nI_1, if_true, if_false, not_true_eq_false, not_false_eq_true, Bool.false_eq_true, Bool.true_eq_false, reduceIte, ite_true, ite_false]
  · by_cases h2 : i % 2 = 1
    · simp only [h1, h2, if_true, if_false] at hpd ⊢
      simp only [c_X3_two_34, c_X3_two_73, c_X3_two_103, lt_4 hi, gR_X0, gR_X1, gR_X2, gI_X3, gR_X4, gR_X5, gR_X6, cV_X, x_think, xmind_1, xmind_0, xmind_2, xnow_0, xnow_1, xnow_2, bk_some, bind_some', zb_0, zb_1, zb_or, cc_or, N_cV, N_gI0, N_gI1, N_gI2, N_gI3, N_gR4, N_gR5, N_gR6, N_gR7, N_gR8, N_gR9, N_gR10, N_gR11, N_gR12, N_hasBeast, N_isAlive, N_calledBy, N_calledByAnybody, N_needTogether, N_workTogether, N_freeOnes, T_cV, T_gI0, T_gI1, T_gI2, T_gI3, T_gR4, T_gR5, T_gR6, T_gR7, T_gR8, T_gR9, T_gR10, T_gR11, T_gR12, T_hasBeast, T_isAlive, T_calledBy, T_calledByAnybody, T_needTogether, T_workTogether, T_freeOnes, xtw_m, xtw_x1, xtw_x2, xtw_1, xtw_2, xtw_xf, xtw_xg, q1, q2, h1, h2, N_gA7 w _ hb, hs _ ha, hs _ hb, hpd, x_gain w X _ _ _ ha, x_gain w X _ _ _ hb, sA_X32 w _ hi, sA_X33 w _ hi, nI_1, if_true, if_false, not_true_eq_false, not_false_eq_true, Bool.false_eq_true, Bool.true_eq_false, reduceIte, ite_true, ite_false]
    · simp only [h1, h2, if_false] at hpd ⊢
      simp only [c_X3_two_34, c_X3_two_73, c_X3_two_103, lt_4 hi, gR_X0, gR_X1, gR_X2, gI_X3, gR_X4, gR_X5, gR_X6, cV_X, x_think, xmind_1, xmind_0, xmind_2, xnow_0, xnow_1, xnow_2, bk_some, bind_some', zb_0, zb_1, zb_or, cc_or, N_cV, N_gI0, N_gI1, N_gI2, N_gI3, N_gR4, N_gR5, N_gR6, N_gR7, N_gR8, N_gR9, N_gR10, N_gR11, N_gR12, N_hasBeast, N_isAlive, N_calledBy, N_calledByAnybody, N_needTogether, N_workTogether, N_freeOnes, T_cV, T_gI0, T_gI1, T_gI2, T_gI3, T_gR4, T_gR5, T_gR6, T_gR7, T_gR8, T_gR9, T_gR10, T_gR11, T_gR12, T_hasBeast, T_isAlive, T_calledBy, T_calledByAnybody, T_needTogether, T_workTogether, T_freeOnes, xtw_m, xtw_x1, xtw_x2, xtw_1, xtw_2, xtw_xf, xtw_xg, q1, q2, h1, h2, hs _ ha, hs _ hb, hpd, x_gain w X _ _ _ ha, x_gain w X _ _ _ hb, sA_X32 w _ hi, sA_X33 w _ hi, nI_1, if_true, if_false, not_true_eq_false, not_false_eq_true, Bool.false_eq_true, Bool.true_eq_false, reduceIte, ite_true, ite_false]
theorem two_endX (w : aW) (X : aX) (κ : aK) (a1 a2 a3 : Int32) (f g F G : Nat → Int32) (hf : ∀ z, z < 4 → f z = F z) (hg : ∀ z, z < 4 → g z = G z) : ∀ (m i n : Nat), i + m = 4 → m < n → loop2 (c_X3_two_145 0 a1 a2 a3) n (nI i) (putX w (xtw X κ f g)) = some (twoR F G m i, putX w (xtw X κ f g))
  | 0, i, n + 1, hm, _ => by
    have : i = 4 := by omega
    subst this
    rfl
  | m + 1, i, n + 1, hm, hn => by
    show c_X3_two_145 0 a1 a2 a3 (loop2 (c_X3_two_145 0 a1 a2 a3) n) (nI i) (putX w (xtw X κ f g)) = _
    have hi : i < 4 := by omega
    obtain ⟨y2, y1, l2, l1⟩ := xor_4 i hi
    unfold twoR
    rw [fnd_s]
    by_cases h1 : F i < F (x2 i)
    · rw [if_neg (show ¬ twoQ F G i = true by unfold twoQ; rw [decide_eq_true h1, Bool.not_true, Bool.false_and]; decide)]
      simp only [c_X3_two_145, lt_4 hi, gR_X0, gR_X1, gR_X2, gI_X3, gR_X4, gR_X5, gR_X6, cV_X, x_think, xmind_1, xmind_0, xmind_2, xnow_0, xnow_1, xnow_2, bk_some, bind_some', zb_0, zb_1, zb_or, cc_or, y2, y1, gA_X32 w _ hi, gA_X32 w _ l2, xtw_xf, hf i hi, hf _ l2, h1, nI_1, if_true, if_false, not_true_eq_false, not_false_eq_true, Bool.false_eq_true, Bool.true_eq_false, reduceIte, ite_true, ite_false]
      exact two_endX w X κ a1 a2 a3 f g F G hf hg m (i + 1) n (by omega) (by omega)
    · by_cases h2 : G i < G (x1 i)
      · rw [if_neg (show ¬ twoQ F G i = true by unfold twoQ; rw [decide_eq_true h2, Bool.not_true, Bool.and_false]; decide)]
        simp only [c_X3_two_145, lt_4 hi, gR_X0, gR_X1, gR_X2, gI_X3, gR_X4, gR_X5, gR_X6, cV_X, x_think, xmind_1, xmind_0, xmind_2, xnow_0, xnow_1, xnow_2, bk_some, bind_some', zb_0, zb_1, zb_or, cc_or, y2, y1, gA_X32 w _ hi, gA_X32 w _ l2, gA_X33 w _ hi, gA_X33 w _ l1, xtw_xf, xtw_xg, hf i hi, hf _ l2, hg i hi, hg _ l1, h1, h2, nI_1, if_true, if_false, not_true_eq_false, not_false_eq_true, Bool.false_eq_true, Bool.true_eq_false, reduceIte, ite_true, ite_false]
        exact two_endX w X κ a1 a2 a3 f g F G hf hg m (i + 1) n (by omega) (by omega)
      · rw [if_pos (show twoQ F G i = true by unfold twoQ; rw [decide_eq_false h1, decide_eq_false h2]; rfl)]
        simp only [c_X3_two_145, lt_4 hi, gR_X0, gR_X1, gR_X2, gI_X3, gR_X4, gR_X5, gR_X6, cV_X, x_think, xmind_1, xmind_0, xmind_2, xnow_0, xnow_1, xnow_2, bk_some, bind_some', zb_0, zb_1, zb_or, cc_or, y2, y1, gA_X32 w _ hi, gA_X32 w _ l2, gA_X33 w _ hi, gA_X33 w _ l1, xtw_xf, xtw_xg, hf i hi, hf _ l2, hg i hi, hg _ l1, h1, h2, if_true, if_false, not_true_eq_false, not_false_eq_true, Bool.false_eq_true, Bool.true_eq_false, reduceIte, ite_true, ite_false]
        rfl
theorem twoX (w : aW) {X : aX} (hW : WF X.1) {a b t : Nat} (ha : a < 5) (hb : b < 5) (ht : t < 1000) : ∀ (m i : Nat) (μ : aK) (f g : Nat → Int32) (n : Nat), i + m = 4 → m < n → (∀ z, z < i → f z = oneK X.1 a b t z) → (∀ z, z < i → g z = othK X.1 a b t z) → ∃ μ' f' g', loop2 (c_X3_two_34 0 (nI a) (nI b) (nI t)) n (nI i) (putX w (xtw X μ f g)) = some (twoR (oneK X.1 a b t) (othK X.1 a b t) 4 0, putX w (xtw X μ' f' g'))
  | 0, i, μ, f, g, n + 1, hm, _, hf, hg => by
    have : i = 4 := by omega
    subst this
    refine ⟨μ, f, g, ?_⟩
    show c_X3_two_34 0 (nI a) (nI b) (nI t) (loop2 (c_X3_two_34 0 (nI a) (nI b) (nI t)) n) (nI 4) (putX w (xtw X μ f g)) = _
    simp only [c_X3_two_34, show (4 : Int32) ≤ nI 4 by decide, if_true, if_false, not_true_eq_false, not_false_eq_true, Bool.false_eq_true, Bool.true_eq_false, reduceIte, ite_true, ite_false]
    exact two_endX w X μ (nI a) (nI b) (nI t) f g _ _ hf hg 4 0 a_fuel rfl (by decide)
  | m + 1, i, μ, f, g, n + 1, hm, hn, hf, hg => by
    obtain ⟨μ1, h1⟩ := two_stepX w hW ha hb ht (show i < 4 by omega) μ f g
    obtain ⟨μ', f', g', h'⟩ := twoX w hW ha hb ht m (i + 1) μ1 (upd f i (oneK X.1 a b t i)) (upd g i (othK X.1 a b t i)) n (by omega) (by omega) (fun z hz => by
      unfold upd
      by_cases h : z = i
      · rw [if_pos h, h]
      · rw [if_neg h]; exact hf z (by omega)) (fun z hz => by
      unfold upd
      by_cases h : z = i
      · rw [if_pos h, h]
      · rw [if_neg h]; exact hg z (by omega))
    refine ⟨μ', f', g', ?_⟩
    show c_X3_two_34 0 (nI a) (nI b) (nI t) (loop2 (c_X3_two_34 0 (nI a) (nI b) (nI t)) n) (nI i) (putX w (xtw X μ f g)) = _
    rw [h1]
    exact h'
theorem x_two (w : aW) {X : aX} (hW : WF X.1) (x y n : Int32) : ∃ μ f g, f_X3_two 0 x y n (putX w X) = some (twoK x y n X.1, putX w (xtw X μ f g)) := by
  unfold f_X3_two twoK
  by_cases h1 : inR x 0 4 = true
  · by_cases h2 : inR y 0 4 = true
    · by_cases h3 : x = y
      · refine ⟨X.2.1, X.2.2.2.2.2.1, X.2.2.2.2.2.2, ?_⟩
        subst h3
        simp only [h1, gR_X0, gR_X1, gR_X2, gI_X3, gR_X4, gR_X5, gR_X6, cV_X, x_think, xmind_1, xmind_0, xmind_2, xnow_0, xnow_1, xnow_2, bk_some, bind_some', zb_0, zb_1, zb_or, cc_or, p_isPerson, if_true, if_false, not_true_eq_false, not_false_eq_true, Bool.false_eq_true, Bool.true_eq_false, reduceIte, ite_true, ite_false]
        rfl
      · by_cases h4 : inR n 1 30 = true
        · obtain ⟨a, ha, hx⟩ := inP h1
          obtain ⟨b, hb, hy⟩ := inP h2
          obtain ⟨t, ht, hn⟩ := in30 h4
          subst hx hy hn
          obtain ⟨μ, f, g, hl⟩ := twoX w hW ha hb (show t < 1000 by omega) 4 0 X.2.1 X.2.2.2.2.2.1 X.2.2.2.2.2.2 a_fuel rfl (by decide) (fun z hz => absurd hz (Nat.not_lt_zero z)) (fun z hz => absurd hz (Nat.not_lt_zero z))
          refine ⟨μ, f, g, ?_⟩
          simp only [h1, h2, h3, h4, gR_X0, gR_X1, gR_X2, gI_X3, gR_X4, gR_X5, gR_X6, cV_X, x_think, xmind_1, xmind_0, xmind_2, xnow_0, xnow_1, xnow_2, bk_some, bind_some', zb_0, zb_1, zb_or, cc_or, p_isPerson, p_within, ix_nI (show a < 2 ^ 31 by omega), ix_nI (show b < 2 ^ 31 by omega), ix_nI (show t < 2 ^ 31 by omega), if_true, if_false, not_true_eq_false, not_false_eq_true, Bool.false_eq_true, Bool.true_eq_false, reduceIte, ite_true, ite_false]
          exact hl
        · have h4 := Bool.eq_false_iff.mpr h4
          refine ⟨X.2.1, X.2.2.2.2.2.1, X.2.2.2.2.2.2, ?_⟩
          simp only [h1, h2, h3, h4, gR_X0, gR_X1, gR_X2, gI_X3, gR_X4, gR_X5, gR_X6, cV_X, x_think, xmind_1, xmind_0, xmind_2, xnow_0, xnow_1, xnow_2, bk_some, bind_some', zb_0, zb_1, zb_or, cc_or, p_isPerson, p_within, if_true, if_false, not_true_eq_false, not_false_eq_true, Bool.false_eq_true, Bool.true_eq_false, reduceIte, ite_true, ite_false]
          rfl
    · have h2 := Bool.eq_false_iff.mpr h2
      refine ⟨X.2.1, X.2.2.2.2.2.1, X.2.2.2.2.2.2, ?_⟩
      simp only [h1, h2, gR_X0, gR_X1, gR_X2, gI_X3, gR_X4, gR_X5, gR_X6, cV_X, x_think, xmind_1, xmind_0, xmind_2, xnow_0, xnow_1, xnow_2, bk_some, bind_some', zb_0, zb_1, zb_or, cc_or, p_isPerson, if_true, if_false, not_true_eq_false, not_false_eq_true, Bool.false_eq_true, Bool.true_eq_false, reduceIte, ite_true, ite_false]
      rfl
  · have h1 := Bool.eq_false_iff.mpr h1
    refine ⟨X.2.1, X.2.2.2.2.2.1, X.2.2.2.2.2.2, ?_⟩
    simp only [h1, gR_X0, gR_X1, gR_X2, gI_X3, gR_X4, gR_X5, gR_X6, cV_X, x_think, xmind_1, xmind_0, xmind_2, xnow_0, xnow_1, xnow_2, bk_some, bind_some', zb_0, zb_1, zb_or, cc_or, p_isPerson, if_true, if_false, not_true_eq_false, not_false_eq_true, Bool.false_eq_true, Bool.true_eq_false, reduceIte, ite_true, ite_false]
    rfl
