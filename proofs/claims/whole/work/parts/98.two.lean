/-! PURE: two at the model; share -/
theorem kept_11 {Y : aY} {κ : aK} {i : Nat} {x : Int32} (h : Kept Y 8 κ) : Kept (yset Y 11 i x) 8 κ := by
  unfold Kept at h ⊢
  have e : ∀ z, (yset Y 11 i x).2.1 8 z = Y.2.1 8 z := fun z => yset_k Y i x (by decide)
  refine ⟨by rw [e]; exact h.1, by rw [e]; exact h.2.1, by rw [e]; exact h.2.2.1, fun b hb c hc => ?_, fun p hp c hc => ?_⟩
  · rw [e]; exact h.2.2.2.1 b hb c hc
  · rw [e]; exact h.2.2.2.2 p hp c hc
theorem yk_11 (Y : aY) (i : Nat) (x : Int32) : Yk Y (yset Y 11 i x) := by
  refine ⟨⟨rfl, rfl, fun k hk => ?_, rfl⟩, ?_⟩
  · funext z
    exact yset_k Y i x (by omega)
  · funext z
    exact yset_k Y i x (by decide)
theorem two_ix : ∀ i, i < 4 → (2 : Int32) * nI i = nI (2 * i) ∧ (2 : Int32) * nI i + 1 = nI (2 * i + 1) ∧ (2 : Int32) * (2 * (1 - nI i / 2) + (nI i - nI i / 2 * 2)) = nI (2 * x2 i) ∧ (2 : Int32) * (2 * (nI i / 2) + 1 - (nI i - nI i / 2 * 2)) + 1 = nI (2 * x1 i + 1) := by decide
theorem two_stepY (w : aW) {κ : aK} (hW : WF κ) {a b n i : Nat} (ha : a < 5) (hb : b < 5) (hab : ¬ a = b) (hn : n < 1000) (hi : i < 4) (Y : aY) (h0 : Y.1 0 = 0) (hK : Kept Y 8 κ) : ∃ Y', Yk Y Y' ∧ Kept Y' 8 κ ∧ (∀ z, Y'.2.1 11 z = if z = 2 * i + 1 then othK κ a b n i else if z = 2 * i then oneK κ a b n i else Y.2.1 11 z) ∧ ∀ k, c_X4_two_45 50 (nI a) (nI b) (nI n) k (nI i) (putY w κ Y) = k (nI (i + 1)) (putY w κ Y') := by
  have hk9 := hW.1
  obtain ⟨q1, q2⟩ := half_4 i hi
  obtain ⟨r1, r2, -, -⟩ := two_ix i hi
  have hWt := two_WF hW ha hb i
  let Y1 := yset (yset Y 11 (2 * i) (oneK κ a b n i)) 11 (2 * i + 1) (othK κ a b n i)
  have hK1 : Kept Y1 8 κ := kept_11 (kept_11 hK)
  obtain ⟨Y', h1, h2, h3, h4⟩ := m_again w (daysK n (twoS κ a b i)) Y1 hk9 hK1
  have e11 : Y'.2.1 11 = Y1.2.1 11 := h2 11 (by decide) (by decide)
  refine ⟨Y', (((yk_11 Y (2 * i) _).trans (yk_11 _ (2 * i + 1) _)).trans ⟨h1, h2 9 (by decide) (by decide)⟩), h3, fun z => ?_, fun k => ?_⟩
  · rw [e11]
    show (yset (yset Y 11 (2 * i) _) 11 (2 * i + 1) _).2.1 11 z = _
    rw [yset_21, yset_21]
    by_cases c1 : z = 2 * i + 1
    · rw [if_pos ⟨rfl, c1⟩, if_pos c1]
    · rw [if_neg (fun q => c1 q.2), if_neg c1]
      by_cases c2 : z = 2 * i
      · rw [if_pos ⟨rfl, c2⟩, if_pos c2]
      · rw [if_neg (fun q => c2 q.2), if_neg c2]
  · have hgd := m_goDays w Y hWt h0 hn
    have e1 : (daysK n (twoS κ a b i)).2.2 5 a - 5 * ((daysK n (twoS κ a b i)).2.2 8 a - κ.2.2 8 a) = oneK κ a b n i := rfl
    have e2 : (daysK n (twoS κ a b i)).2.2 5 b - 5 * ((daysK n (twoS κ a b i)).2.2 8 b - κ.2.2 8 b) = othK κ a b n i := rfl
    have hY1 : yset (yset Y 11 (2 * i) (oneK κ a b n i)) 11 (2 * i + 1) (othK κ a b n i) = Y1 := rfl
    have hne : ∀ x, (kset κ 7 a x).2.2 7 b = κ.2.2 7 b := fun x => by rw [kset_22, if_neg (fun q => hab q.2.symm)]
    by_cases c1 : i / 2 = 1
    · by_cases c2 : i % 2 = 1
      · have ht : kset (kset κ 7 a (κ.2.2 7 a)) 7 b (κ.2.2 7 b) = twoS κ a b i := by
          unfold twoS; rw [if_pos c1, if_pos c2]
        simp only [c_X4_two_45, c_X4_two_90, c_X4_two_114, lt_4 hi, q1, q2, c1, c2, gI_Y0, gR_Y1, gR_Y2, gR_Y3, gR_Y4, gR_Y5, gI_Y6, gR_Y7, gR_Y8, gR_Y9, gR_Y10, gI_Y11, gI_Y12, gR_Y13, gR_Y14, gR_Y15, gR_Y16, gR_Y17, gR_Y18, gI_Y19, gI_Y20, gI_Y21, gI_Y22, gI_Y23, gR_Y24, gR_Y25, gR_Y26, gR_Y27, gR_Y28, gI_Y29, gI_Y30, gI_Y31, gR_Y33, gR_Y34, gI_Y35, gR_Y36, cV_Y, bk_some, bind_some', zb_0, zb_1, zb_or, cc_or, kset_1, kset_21, kint_1, kint_21, kint_22, putY_moved, gA_Y59 w _ _ ha, gA_Y59 w _ _ hb, gA_Y58 w _ _ ha, gA_Y58 w _ _ hb, hne, sA_Y58 w _ _ ha, sA_Y58 w _ _ hb, ht, hgd, gA_Y56 w _ _ ha, gA_Y56 w _ _ hb, e1, e2, r1, r2, sA_Y72 w _ _ (show 2 * i < 8 by omega), sA_Y72 w _ _ (show 2 * i + 1 < 8 by omega), hY1, h4, nI_1, if_true, if_false, not_true_eq_false, not_false_eq_true, Bool.false_eq_true, Bool.true_eq_false, reduceIte, ite_true, ite_false]
      · have ht : kset (kset κ 7 a (κ.2.2 7 a)) 7 b 0 = twoS κ a b i := by
          unfold twoS; rw [if_pos c1, if_neg c2]
        simp only [c_X4_two_45, c_X4_two_90, c_X4_two_114, lt_4 hi, q1, q2, c1, c2, gI_Y0, gR_Y1, gR_Y2, gR_Y3, gR_Y4, gR_Y5, gI_Y6, gR_Y7, gR_Y8, gR_Y9, gR_Y10, gI_Y11, gI_Y12, gR_Y13, gR_Y14, gR_Y15, gR_Y16, gR_Y17, gR_Y18, gI_Y19, gI_Y20, gI_Y21, gI_Y22, gI_Y23, gR_Y24, gR_Y25, gR_Y26, gR_Y27, gR_Y28, gI_Y29, gI_Y30, gI_Y31, gR_Y33, gR_Y34, gI_Y35, gR_Y36, cV_Y, bk_some, bind_some', zb_0, zb_1, zb_or, cc_or, kset_1, kset_21, kint_1, kint_21, kint_22, putY_moved, gA_Y59 w _ _ ha, gA_Y59 w _ _ hb, gA_Y58 w _ _ ha, gA_Y58 w _ _ hb, hne, sA_Y58 w _ _ ha, sA_Y58 w _ _ hb, ht, hgd, gA_Y56 w _ _ ha, gA_Y56 w _ _ hb, e1, e2, r1, r2, sA_Y72 w _ _ (show 2 * i < 8 by omega), sA_Y72 w _ _ (show 2 * i + 1 < 8 by omega), hY1, h4, nI_1, if_true, if_false, not_true_eq_false, not_false_eq_true, Bool.false_eq_true, Bool.true_eq_false, reduceIte, ite_true, ite_false]
    · by_cases c2 : i % 2 = 1
      · have ht : kset (kset κ 7 a 0) 7 b (κ.2.2 7 b) = twoS κ a b i := by
          unfold twoS; rw [if_neg c1, if_pos c2]
        simp only [c_X4_two_45, c_X4_two_90, c_X4_two_114, lt_4 hi, q1, q2, c1, c2, gI_Y0, gR_Y1, gR_Y2, gR_Y3, gR_Y4, gR_Y5, gI_Y6, gR_Y7, gR_Y8, gR_Y9, gR_Y10, gI_Y11, gI_Y12, gR_Y13, gR_Y14, gR_Y15, gR_Y16, gR_Y17, gR_Y18, gI_Y19, gI_Y20, gI_Y21, gI_Y22, gI_Y23, gR_Y24, gR_Y25, gR_Y26, gR_Y27, gR_Y28, gI_Y29, gI_Y30, gI_Y31, gR_Y33, gR_Y34, gI_Y35, gR_Y36, cV_Y, bk_some, bind_some', zb_0, zb_1, zb_or, cc_or, kset_1, kset_21, kint_1, kint_21, kint_22, putY_moved, gA_Y59 w _ _ ha, gA_Y59 w _ _ hb, gA_Y58 w _ _ hb, hne, sA_Y58 w _ _ ha, sA_Y58 w _ _ hb, ht, hgd, gA_Y56 w _ _ ha, gA_Y56 w _ _ hb, e1, e2, r1, r2, sA_Y72 w _ _ (show 2 * i < 8 by omega), sA_Y72 w _ _ (show 2 * i + 1 < 8 by omega), hY1, h4, nI_1, if_true, if_false, not_true_eq_false, not_false_eq_true, Bool.false_eq_true, Bool.true_eq_false, reduceIte, ite_true, ite_false]
      · have ht : kset (kset κ 7 a 0) 7 b 0 = twoS κ a b i := by
          unfold twoS; rw [if_neg c1, if_neg c2]
        simp only [c_X4_two_45, c_X4_two_90, c_X4_two_114, lt_4 hi, q1, q2, c1, c2, gI_Y0, gR_Y1, gR_Y2, gR_Y3, gR_Y4, gR_Y5, gI_Y6, gR_Y7, gR_Y8, gR_Y9, gR_Y10, gI_Y11, gI_Y12, gR_Y13, gR_Y14, gR_Y15, gR_Y16, gR_Y17, gR_Y18, gI_Y19, gI_Y20, gI_Y21, gI_Y22, gI_Y23, gR_Y24, gR_Y25, gR_Y26, gR_Y27, gR_Y28, gI_Y29, gI_Y30, gI_Y31, gR_Y33, gR_Y34, gI_Y35, gR_Y36, cV_Y, bk_some, bind_some', zb_0, zb_1, zb_or, cc_or, kset_1, kset_21, kint_1, kint_21, kint_22, putY_moved, gA_Y59 w _ _ ha, gA_Y59 w _ _ hb, sA_Y58 w _ _ ha, sA_Y58 w _ _ hb, ht, hgd, gA_Y56 w _ _ ha, gA_Y56 w _ _ hb, e1, e2, r1, r2, sA_Y72 w _ _ (show 2 * i < 8 by omega), sA_Y72 w _ _ (show 2 * i + 1 < 8 by omega), hY1, h4, nI_1, if_true, if_false, not_true_eq_false, not_false_eq_true, Bool.false_eq_true, Bool.true_eq_false, reduceIte, ite_true, ite_false]

theorem two_endY (w : aW) (κ : aK) (Y : aY) (a1 a2 a3 : Int32) (F G : Nat → Int32) (hf : ∀ z, z < 4 → Y.2.1 11 (2 * z) = F z) (hg : ∀ z, z < 4 → Y.2.1 11 (2 * z + 1) = G z) : ∀ (m i n : Nat), i + m = 4 → m < n → loop2 (c_X4_two_189 50 a1 a2 a3) n (nI i) (putY w κ Y) = some (twoR F G m i, putY w κ Y)
  | 0, i, n + 1, hm, _ => by
    have : i = 4 := by omega
    subst this
    rfl
  | m + 1, i, n + 1, hm, hn => by
    show c_X4_two_189 50 a1 a2 a3 (loop2 (c_X4_two_189 50 a1 a2 a3) n) (nI i) (putY w κ Y) = _
    have hi : i < 4 := by omega
    obtain ⟨y2, y1, l2, l1⟩ := xor_4 i hi
    obtain ⟨r1, r2, r3, r4⟩ := two_ix i hi
    unfold twoR
    rw [fnd_s]
    by_cases h1 : F i < F (x2 i)
    · rw [if_neg (show ¬ twoQ F G i = true by unfold twoQ; rw [decide_eq_true h1, Bool.not_true, Bool.false_and]; decide)]
      simp only [c_X4_two_189, lt_4 hi, gI_Y0, gR_Y1, gR_Y2, gR_Y3, gR_Y4, gR_Y5, gI_Y6, gR_Y7, gR_Y8, gR_Y9, gR_Y10, gI_Y11, gI_Y12, gR_Y13, gR_Y14, gR_Y15, gR_Y16, gR_Y17, gR_Y18, gI_Y19, gI_Y20, gI_Y21, gI_Y22, gI_Y23, gR_Y24, gR_Y25, gR_Y26, gR_Y27, gR_Y28, gI_Y29, gI_Y30, gI_Y31, gR_Y33, gR_Y34, gI_Y35, gR_Y36, cV_Y, bk_some, bind_some', zb_0, zb_1, zb_or, cc_or, kset_1, kset_21, kint_1, kint_21, kint_22, putY_moved, r1, r3, gA_Y72 w κ Y (show 2 * i < 8 by omega), gA_Y72 w κ Y (show 2 * x2 i < 8 by omega), hf i hi, hf _ l2, h1, nI_1, if_true, if_false, not_true_eq_false, not_false_eq_true, Bool.false_eq_true, Bool.true_eq_false, reduceIte, ite_true, ite_false]
      exact two_endY w κ Y a1 a2 a3 F G hf hg m (i + 1) n (by omega) (by omega)
    · by_cases h2 : G i < G (x1 i)
      · rw [if_neg (show ¬ twoQ F G i = true by unfold twoQ; rw [decide_eq_true h2, Bool.not_true, Bool.and_false]; decide)]
        simp only [c_X4_two_189, lt_4 hi, gI_Y0, gR_Y1, gR_Y2, gR_Y3, gR_Y4, gR_Y5, gI_Y6, gR_Y7, gR_Y8, gR_Y9, gR_Y10, gI_Y11, gI_Y12, gR_Y13, gR_Y14, gR_Y15, gR_Y16, gR_Y17, gR_Y18, gI_Y19, gI_Y20, gI_Y21, gI_Y22, gI_Y23, gR_Y24, gR_Y25, gR_Y26, gR_Y27, gR_Y28, gI_Y29, gI_Y30, gI_Y31, gR_Y33, gR_Y34, gI_Y35, gR_Y36, cV_Y, bk_some, bind_some', zb_0, zb_1, zb_or, cc_or, kset_1, kset_21, kint_1, kint_21, kint_22, putY_moved, r2, r4, gA_Y72 w κ Y (show 2 * i + 1 < 8 by omega), gA_Y72 w κ Y (show 2 * x1 i + 1 < 8 by omega), r1, r3, gA_Y72 w κ Y (show 2 * i < 8 by omega), gA_Y72 w κ Y (show 2 * x2 i < 8 by omega), hf i hi, hf _ l2, hg i hi, hg _ l1, h1, h2, nI_1, if_true, if_false, not_true_eq_false, not_false_eq_true, Bool.false_eq_true, Bool.true_eq_false, reduceIte, ite_true, ite_false]
        exact two_endY w κ Y a1 a2 a3 F G hf hg m (i + 1) n (by omega) (by omega)
      · rw [if_pos (show twoQ F G i = true by unfold twoQ; rw [decide_eq_false h1, decide_eq_false h2]; rfl)]
        simp only [c_X4_two_189, lt_4 hi, gI_Y0, gR_Y1, gR_Y2, gR_Y3, gR_Y4, gR_Y5, gI_Y6, gR_Y7, gR_Y8, gR_Y9, gR_Y10, gI_Y11, gI_Y12, gR_Y13, gR_Y14, gR_Y15, gR_Y16, gR_Y17, gR_Y18, gI_Y19, gI_Y20, gI_Y21, gI_Y22, gI_Y23, gR_Y24, gR_Y25, gR_Y26, gR_Y27, gR_Y28, gI_Y29, gI_Y30, gI_Y31, gR_Y33, gR_Y34, gI_Y35, gR_Y36, cV_Y, bk_some, bind_some', zb_0, zb_1, zb_or, cc_or, kset_1, kset_21, kint_1, kint_21, kint_22, putY_moved, r2, r4, gA_Y72 w κ Y (show 2 * i + 1 < 8 by omega), gA_Y72 w κ Y (show 2 * x1 i + 1 < 8 by omega), r1, r3, gA_Y72 w κ Y (show 2 * i < 8 by omega), gA_Y72 w κ Y (show 2 * x2 i < 8 by omega), hf i hi, hf _ l2, hg i hi, hg _ l1, h1, h2, nI_1, if_true, if_false, not_true_eq_false, not_false_eq_true, Bool.false_eq_true, Bool.true_eq_false, reduceIte, ite_true, ite_false]
        rfl
theorem twoY (w : aW) {κ : aK} (hW : WF κ) {a b t : Nat} (ha : a < 5) (hb : b < 5) (hab : ¬ a = b) (ht : t < 1000) : ∀ (m i : Nat) (Y : aY) (n : Nat), i + m = 4 → m < n → Y.1 0 = 0 → Kept Y 8 κ → (∀ z, z < i → Y.2.1 11 (2 * z) = oneK κ a b t z) → (∀ z, z < i → Y.2.1 11 (2 * z + 1) = othK κ a b t z) → ∃ Y', Yk Y Y' ∧ loop2 (c_X4_two_45 50 (nI a) (nI b) (nI t)) n (nI i) (putY w κ Y) = some (twoR (oneK κ a b t) (othK κ a b t) 4 0, putY w κ Y')
  | 0, i, Y, n + 1, hm, _, _, _, hf, hg => by
    have : i = 4 := by omega
    subst this
    refine ⟨Y, Yk.refl Y, ?_⟩
    show c_X4_two_45 50 (nI a) (nI b) (nI t) (loop2 (c_X4_two_45 50 (nI a) (nI b) (nI t)) n) (nI 4) (putY w κ Y) = _
    simp only [c_X4_two_45, show (4 : Int32) ≤ nI 4 by decide, if_true, if_false, not_true_eq_false, not_false_eq_true, Bool.false_eq_true, Bool.true_eq_false, reduceIte, ite_true, ite_false]
    exact two_endY w κ Y (nI a) (nI b) (nI t) _ _ hf hg 4 0 a_fuel rfl (by decide)
  | m + 1, i, Y, n + 1, hm, hn, h0, hK, hf, hg => by
    obtain ⟨Y1, e1, hK1, h11, h1⟩ := two_stepY w hW ha hb hab ht (show i < 4 by omega) Y h0 hK
    obtain ⟨Y', e', h'⟩ := twoY w hW ha hb hab ht m (i + 1) Y1 n (by omega) (by omega) (e1.1.1.trans h0) hK1 (fun z hz => by
      rw [h11, if_neg (by omega)]
      by_cases h : z = i
      · rw [if_pos (by omega), h]
      · rw [if_neg (by omega)]; exact hf z (by omega)) (fun z hz => by
      rw [h11]
      by_cases h : z = i
      · rw [if_pos (by omega), h]
      · rw [if_neg (by omega), if_neg (by omega)]; exact hg z (by omega))
    refine ⟨Y', e1.trans e', ?_⟩
    show c_X4_two_45 50 (nI a) (nI b) (nI t) (loop2 (c_X4_two_45 50 (nI a) (nI b) (nI t)) n) (nI i) (putY w κ Y) = _
    rw [h1]
    exact h'
theorem m_two (w : aW) (Y : aY) {κ : aK} (hW : WF κ) (hs : Y.1 0 = 0) (x y n : Int32) : ∃ Y', Yk Y Y' ∧ f_X4_two 50 x y n (putY w κ Y) = some (twoK x y n κ, putY w κ Y') := by
  have hk9 := hW.1
  unfold f_X4_two twoK
  have e1 := p_in32 (x := n) (a := 1) (b := 30) (a' := 1) (b' := 30) rfl rfl
  by_cases h1 : inR x 0 4 = true
  · by_cases h2 : inR y 0 4 = true
    · by_cases h3 : x = y
      · refine ⟨yint Y 1 0, Yk.thrown Y 0, ?_⟩
        subst h3
        simp only [h1, m_isPerson, sF_Y19, gI_Y0, gR_Y1, gR_Y2, gR_Y3, gR_Y4, gR_Y5, gI_Y6, gR_Y7, gR_Y8, gR_Y9, gR_Y10, gI_Y11, gI_Y12, gR_Y13, gR_Y14, gR_Y15, gR_Y16, gR_Y17, gR_Y18, gI_Y19, gI_Y20, gI_Y21, gI_Y22, gI_Y23, gR_Y24, gR_Y25, gR_Y26, gR_Y27, gR_Y28, gI_Y29, gI_Y30, gI_Y31, gR_Y33, gR_Y34, gI_Y35, gR_Y36, cV_Y, bk_some, bind_some', zb_0, zb_1, zb_or, cc_or, kset_1, kset_21, kint_1, kint_21, kint_22, putY_moved, if_true, if_false, not_true_eq_false, not_false_eq_true, Bool.false_eq_true, Bool.true_eq_false, reduceIte, ite_true, ite_false]
      · by_cases h4 : inR n 1 30 = true
        · obtain ⟨a, ha, hx⟩ := inP h1
          obtain ⟨b, hb, hy⟩ := inP h2
          obtain ⟨t, ht, hn⟩ := in30 h4
          subst hx hy hn
          have hab : ¬ a = b := fun z => h3 (by rw [z])
          obtain ⟨Y1, e2, hK, htk⟩ := k_think w (yint Y 1 0) hk9
          have hs1 : Y1.1 0 = 0 := e2.1.1.trans hs
          obtain ⟨Y2, e3, hl⟩ := twoY w hW ha hb hab (show t < 1000 by omega) 4 0 Y1 a_fuel rfl (by decide) hs1 hK (fun z hz => absurd hz (Nat.not_lt_zero z)) (fun z hz => absurd hz (Nat.not_lt_zero z))
          refine ⟨Y2, ((Yk.thrown Y 0).trans e2).trans e3, ?_⟩
          simp only [h1, h2, h3, h4, e1, m_isPerson, sF_Y19, gI_Y0, gR_Y1, gR_Y2, gR_Y3, gR_Y4, gR_Y5, gI_Y6, gR_Y7, gR_Y8, gR_Y9, gR_Y10, gI_Y11, gI_Y12, gR_Y13, gR_Y14, gR_Y15, gR_Y16, gR_Y17, gR_Y18, gI_Y19, gI_Y20, gI_Y21, gI_Y22, gI_Y23, gR_Y24, gR_Y25, gR_Y26, gR_Y27, gR_Y28, gI_Y29, gI_Y30, gI_Y31, gR_Y33, gR_Y34, gI_Y35, gR_Y36, cV_Y, bk_some, bind_some', zb_0, zb_1, zb_or, cc_or, kset_1, kset_21, kint_1, kint_21, kint_22, putY_moved, htk, ix_nI (show a < 2 ^ 31 by omega), ix_nI (show b < 2 ^ 31 by omega), ix_nI (show t < 2 ^ 31 by omega), if_true, if_false, not_true_eq_false, not_false_eq_true, Bool.false_eq_true, Bool.true_eq_false, reduceIte, ite_true, ite_false]
          exact hl
        · have h4 := Bool.eq_false_iff.mpr h4
          refine ⟨yint Y 1 0, Yk.thrown Y 0, ?_⟩
          simp only [h1, h2, h3, h4, e1, m_isPerson, sF_Y19, gI_Y0, gR_Y1, gR_Y2, gR_Y3, gR_Y4, gR_Y5, gI_Y6, gR_Y7, gR_Y8, gR_Y9, gR_Y10, gI_Y11, gI_Y12, gR_Y13, gR_Y14, gR_Y15, gR_Y16, gR_Y17, gR_Y18, gI_Y19, gI_Y20, gI_Y21, gI_Y22, gI_Y23, gR_Y24, gR_Y25, gR_Y26, gR_Y27, gR_Y28, gI_Y29, gI_Y30, gI_Y31, gR_Y33, gR_Y34, gI_Y35, gR_Y36, cV_Y, bk_some, bind_some', zb_0, zb_1, zb_or, cc_or, kset_1, kset_21, kint_1, kint_21, kint_22, putY_moved, if_true, if_false, not_true_eq_false, not_false_eq_true, Bool.false_eq_true, Bool.true_eq_false, reduceIte, ite_true, ite_false]
    · have h2 := Bool.eq_false_iff.mpr h2
      refine ⟨yint Y 1 0, Yk.thrown Y 0, ?_⟩
      simp only [h1, h2, m_isPerson, sF_Y19, gI_Y0, gR_Y1, gR_Y2, gR_Y3, gR_Y4, gR_Y5, gI_Y6, gR_Y7, gR_Y8, gR_Y9, gR_Y10, gI_Y11, gI_Y12, gR_Y13, gR_Y14, gR_Y15, gR_Y16, gR_Y17, gR_Y18, gI_Y19, gI_Y20, gI_Y21, gI_Y22, gI_Y23, gR_Y24, gR_Y25, gR_Y26, gR_Y27, gR_Y28, gI_Y29, gI_Y30, gI_Y31, gR_Y33, gR_Y34, gI_Y35, gR_Y36, cV_Y, bk_some, bind_some', zb_0, zb_1, zb_or, cc_or, kset_1, kset_21, kint_1, kint_21, kint_22, putY_moved, if_true, if_false, not_true_eq_false, not_false_eq_true, Bool.false_eq_true, Bool.true_eq_false, reduceIte, ite_true, ite_false]
  · have h1 := Bool.eq_false_iff.mpr h1
    refine ⟨yint Y 1 0, Yk.thrown Y 0, ?_⟩
    simp only [h1, m_isPerson, sF_Y19, gI_Y0, gR_Y1, gR_Y2, gR_Y3, gR_Y4, gR_Y5, gI_Y6, gR_Y7, gR_Y8, gR_Y9, gR_Y10, gI_Y11, gI_Y12, gR_Y13, gR_Y14, gR_Y15, gR_Y16, gR_Y17, gR_Y18, gI_Y19, gI_Y20, gI_Y21, gI_Y22, gI_Y23, gR_Y24, gR_Y25, gR_Y26, gR_Y27, gR_Y28, gI_Y29, gI_Y30, gI_Y31, gR_Y33, gR_Y34, gI_Y35, gR_Y36, cV_Y, bk_some, bind_some', zb_0, zb_1, zb_or, cc_or, kset_1, kset_21, kint_1, kint_21, kint_22, putY_moved, if_true, if_false, not_true_eq_false, not_false_eq_true, Bool.false_eq_true, Bool.true_eq_false, reduceIte, ite_true, ite_false]
/-! fractions in least terms -/
def eT : Nat → Nat → Nat → Prop
  | 0, _, b => b = 0
  | n + 1, a, b => b = 0 ∨ eT n b (a % b)
theorem eT_bound : ∀ (k a b : Nat), b < 2 ^ k → eT (2 * k) a b
  | 0, a, b, h => by
    have h' : b < 1 := h
    show b = 0
    omega
  | k + 1, a, b, h => by
    show b = 0 ∨ (a % b = 0 ∨ eT (2 * k) (a % b) (b % (a % b)))
    by_cases hb : b = 0
    · exact Or.inl hb
    · by_cases hr : a % b = 0
      · exact Or.inr (Or.inl hr)
      · refine Or.inr (Or.inr (eT_bound k _ _ ?_))
        have h1 : a % b < b := Nat.mod_lt _ (by omega)
        have h2 : b % (a % b) < a % b := Nat.mod_lt _ (by omega)
        have h3 := Nat.mod_add_div b (a % b)
        have h4 : 0 < b / (a % b) := Nat.div_pos (by omega) (by omega)
        have h5 := Nat.le_mul_of_pos_right (a % b) h4
        have h6 : 2 ^ (k + 1) = 2 ^ k * 2 := Nat.pow_succ 2 k
        omega
theorem gcd_step (a b : Nat) : Nat.gcd b (a % b) = Nat.gcd a b := by
  rw [Nat.gcd_comm a b, Nat.gcd_rec b a, Nat.gcd_comm]
theorem lN0 {b : Nat} (hb : b < 2 ^ 63) : (lN b = 0) = (b = 0) := propext ⟨fun h => by
  have h := congrArg Int64.toInt h
  rw [pk_lT hb, show (0 : Int64).toInt = 0 from rfl] at h
  omega, fun h => by rw [h]; rfl⟩
theorem p_gcd (w : aW) (c1 c2 : Int64) : ∀ (n i a b f : Nat), eT n a b → i + n < 200 → n < f → a < 2 ^ 63 → b < 2 ^ 63 → loop4 (c_X3_commonDivisor_9 c1 c2) f (lN a) (lN b) (nI i) w = some (lN (Nat.gcd a b), w)
  | 0, i, a, b, f + 1, h, hi, _, _, hb => by
    have h' : b = 0 := h
    subst h'
    rw [loop4_s]
    have h200 : ¬ (200 : Int32) ≤ nI i := nI_ge (show i < 200 by omega) (by decide)
    simp only [c_X3_commonDivisor_9, h200, cmp_eq, lN0 hb, if_true, if_false, not_true_eq_false, not_false_eq_true, Bool.false_eq_true, Bool.true_eq_false, reduceIte, ite_true, ite_false]
    rw [Nat.gcd_zero_right]
  | n + 1, i, a, b, f + 1, h, hi, hf, ha, hb => by
    rw [loop4_s]
    have h200 : ¬ (200 : Int32) ≤ nI i := nI_ge (show i < 200 by omega) (by decide)
    by_cases hb0 : b = 0
    · subst hb0
      simp only [c_X3_commonDivisor_9, h200, cmp_eq, lN0 hb, if_true, if_false, not_true_eq_false, not_false_eq_true, Bool.false_eq_true, Bool.true_eq_false, reduceIte, ite_true, ite_false]
      rw [Nat.gcd_zero_right]
    · have h' : eT n b (a % b) := Or.resolve_left h hb0
      have hlt : a % b < b := Nat.mod_lt _ (by omega)
      have ih := p_gcd w c1 c2 n (i + 1) b (a % b) f h' (by omega) (by omega) hb (by omega)
      simp only [c_X3_commonDivisor_9, h200, cmp_eq, lN0 hb, hb0, pk_lRem ha (show 0 < b by omega) hb, nI_1, if_true, if_false, not_true_eq_false, not_false_eq_true, Bool.false_eq_true, Bool.true_eq_false, reduceIte, ite_true, ite_false]
      rw [ih, gcd_step]
theorem m_gcd (w : aW) (c1 c2 : Int64) : ∀ (n a b f : Nat), eT n a b → n < f → a < 2 ^ 63 → b < 2 ^ 63 → loop3 (c_X4_divisor_6 c1 c2) f (lN a) (lN b) w = some (lN (Nat.gcd a b), w)
  | 0, a, b, f + 1, h, _, _, hb => by
    have h' : b = 0 := h
    subst h'
    rw [loop3_s]
    simp only [c_X4_divisor_6, cmp_eq, lN0 hb, if_true, if_false, not_true_eq_false, not_false_eq_true, Bool.false_eq_true, Bool.true_eq_false, reduceIte, ite_true, ite_false]
    rw [Nat.gcd_zero_right]
  | n + 1, a, b, f + 1, h, hf, ha, hb => by
    rw [loop3_s]
    by_cases hb0 : b = 0
    · subst hb0
      simp only [c_X4_divisor_6, cmp_eq, lN0 hb, if_true, if_false, not_true_eq_false, not_false_eq_true, Bool.false_eq_true, Bool.true_eq_false, reduceIte, ite_true, ite_false]
      rw [Nat.gcd_zero_right]
    · have h' : eT n b (a % b) := Or.resolve_left h hb0
      have hlt : a % b < b := Nat.mod_lt _ (by omega)
      have ih := m_gcd w c1 c2 n b (a % b) f h' (by omega) hb (by omega)
      simp only [c_X4_divisor_6, cmp_eq, lN0 hb, hb0, pk_lRem ha (show 0 < b by omega) hb, if_true, if_false, not_true_eq_false, not_false_eq_true, Bool.false_eq_true, Bool.true_eq_false, reduceIte, ite_true, ite_false]
      rw [ih, gcd_step]
def fracK (a b : Nat) (part : Int32) : Int64 := if a = 0 then part.toInt64 else if part = 0 then lN (a / Nat.gcd a b) else lN (b / Nat.gcd a b)
theorem p_frac (w : aW) {a b : Nat} (ha : a < 2 ^ 63) (hb : b < 2 ^ 31) (hab : a = 0 ∨ 0 < b) {part : Int32} (hp : part = 0 ∨ part = 1) : f_X3_partOfFraction (lN a) (lN b) part w = some (fracK a b part, w) := by
  have hb63 : b < 2 ^ 63 := by omega
  have hg : f_X3_commonDivisor (lN a) (lN b) w = some (lN (Nat.gcd a b), w) := p_gcd w (lN a) (lN b) 62 0 a b a_fuel (eT_bound 31 a b hb) (by decide) (by decide) ha hb63
  have hgb : Nat.gcd a b < 2 ^ 63 := by
    rcases hab with h | h
    · subst h; rw [Nat.gcd_zero_left]; exact hb63
    · exact Nat.lt_of_le_of_lt (Nat.gcd_le_right a h) hb63
  unfold f_X3_partOfFraction fracK
  by_cases hb0 : b = 0
  · have ha0 : a = 0 := by rcases hab with h | h <;> omega
    subst ha0 hb0
    simp only [hg, cmp_eq, lN0 hb63, gR_X0, gR_X1, gR_X2, gI_X3, gR_X4, gR_X5, gR_X6, cV_X, x_think, xmind_1, xmind_0, xmind_2, xnow_0, xnow_1, xnow_2, bk_some, bind_some', zb_0, zb_1, zb_or, cc_or, if_true, if_false, not_true_eq_false, not_false_eq_true, Bool.false_eq_true, Bool.true_eq_false, reduceIte, ite_true, ite_false]
  · have hg0 : ¬ Nat.gcd a b = 0 := fun z => hb0 (Nat.eq_zero_of_gcd_eq_zero_right z)
    have hgp : 0 < Nat.gcd a b := Nat.pos_of_ne_zero hg0
    by_cases ha0 : a = 0
    · subst ha0
      rw [Nat.gcd_zero_left] at hg
      rcases hp with h | h
      · subst h
        simp only [hg, cmp_eq, lN0 hb63, hb0, pk_lDiv (a := 0) (b := b) (by decide) (by omega) hb63, Nat.zero_div, gR_X0, gR_X1, gR_X2, gI_X3, gR_X4, gR_X5, gR_X6, cV_X, x_think, xmind_1, xmind_0, xmind_2, xnow_0, xnow_1, xnow_2, bk_some, bind_some', zb_0, zb_1, zb_or, cc_or, if_true, if_false, not_true_eq_false, not_false_eq_true, Bool.false_eq_true, Bool.true_eq_false, reduceIte, ite_true, ite_false]
        rfl
      · subst h
        simp only [hg, cmp_eq, lN0 hb63, hb0, pk_lDiv (a := b) (b := b) hb63 (by omega) hb63, Nat.div_self (show 0 < b by omega), show ¬ (1 : Int32) = 0 by decide, gR_X0, gR_X1, gR_X2, gI_X3, gR_X4, gR_X5, gR_X6, cV_X, x_think, xmind_1, xmind_0, xmind_2, xnow_0, xnow_1, xnow_2, bk_some, bind_some', zb_0, zb_1, zb_or, cc_or, if_true, if_false, not_true_eq_false, not_false_eq_true, Bool.false_eq_true, Bool.true_eq_false, reduceIte, ite_true, ite_false]
        rfl
    · by_cases h : part = 0
      · simp only [hg, cmp_eq, lN0 hb63, lN0 hgb, hb0, hg0, ha0, h, pk_lDiv ha hgp hgb, gR_X0, gR_X1, gR_X2, gI_X3, gR_X4, gR_X5, gR_X6, cV_X, x_think, xmind_1, xmind_0, xmind_2, xnow_0, xnow_1, xnow_2, bk_some, bind_some', zb_0, zb_1, zb_or, cc_or, if_true, if_false, not_true_eq_false, not_false_eq_true, Bool.false_eq_true, Bool.true_eq_false, reduceIte, ite_true, ite_false]
      · simp only [hg, cmp_eq, lN0 hb63, lN0 hgb, hb0, hg0, ha0, h, pk_lDiv hb63 hgp hgb, gR_X0, gR_X1, gR_X2, gI_X3, gR_X4, gR_X5, gR_X6, cV_X, x_think, xmind_1, xmind_0, xmind_2, xnow_0, xnow_1, xnow_2, bk_some, bind_some', zb_0, zb_1, zb_or, cc_or, if_true, if_false, not_true_eq_false, not_false_eq_true, Bool.false_eq_true, Bool.true_eq_false, reduceIte, ite_true, ite_false]
theorem m_frac (w : aW) {a b : Nat} (ha : a < 2 ^ 63) (hb : b < 2 ^ 31) (hab : a = 0 ∨ 0 < b) (part : Int32) : f_X4_partOf (lN a) (lN b) part w = some (fracK a b part, w) := by
  have hb63 : b < 2 ^ 63 := by omega
  have hg : f_X4_divisor (lN a) (lN b) w = some (lN (Nat.gcd a b), w) := m_gcd w (lN a) (lN b) 62 a b a_fuel (eT_bound 31 a b hb) (by decide) ha hb63
  unfold f_X4_partOf fracK
  by_cases ha0 : a = 0
  · subst ha0
    simp only [cmp_eq, show lN 0 = 0 from rfl, if_true, if_false, not_true_eq_false, not_false_eq_true, Bool.false_eq_true, Bool.true_eq_false, reduceIte, ite_true, ite_false]
  · have hb0 : 0 < b := hab.resolve_left ha0
    have hgb : Nat.gcd a b < 2 ^ 63 := Nat.lt_of_le_of_lt (Nat.gcd_le_right a hb0) hb63
    have hg0 : ¬ Nat.gcd a b = 0 := fun z => by have := Nat.eq_zero_of_gcd_eq_zero_right z; omega
    have hgp : 0 < Nat.gcd a b := Nat.pos_of_ne_zero hg0
    by_cases h : part = 0
    · simp only [hg, cmp_eq, lN0 ha, lN0 hgb, ha0, hg0, h, pk_lDiv ha hgp hgb, bk_some, if_true, if_false, not_true_eq_false, not_false_eq_true, Bool.false_eq_true, Bool.true_eq_false, reduceIte, ite_true, ite_false]
    · simp only [hg, cmp_eq, lN0 ha, lN0 hgb, ha0, hg0, h, pk_lDiv hb63 hgp hgb, bk_some, if_true, if_false, not_true_eq_false, not_false_eq_true, Bool.false_eq_true, Bool.true_eq_false, reduceIte, ite_true, ite_false]
/-! share -/
def shareK (x part : Int32) (κ : aK) : Int64 := if inR x 0 4 = true then (if inR part 0 1 = true then fracK (ix (κ.2.2 5 (ix x))) (ix (meansAllK κ)) part else 1000000001) else 1000000001
theorem means_sum {κ : aK} (hW : WF κ) : ∃ s, s < 5000 ∧ meansAllK κ = nI s ∧ ∀ p m, p < 5 → m ≤ 999 → κ.2.2 5 p = nI m → m ≤ s := by
  obtain ⟨m0, h0, e0⟩ := (hW.2.2.1 0 (by decide)).1
  obtain ⟨m1, h1, e1⟩ := (hW.2.2.1 1 (by decide)).1
  obtain ⟨m2, h2, e2⟩ := (hW.2.2.1 2 (by decide)).1
  obtain ⟨m3, h3, e3⟩ := (hW.2.2.1 3 (by decide)).1
  obtain ⟨m4, h4, e4⟩ := (hW.2.2.1 4 (by decide)).1
  refine ⟨0 + m0 + m1 + m2 + m3 + m4, by omega, ?_, fun p m hp hm he => ?_⟩
  · show nI 0 + κ.2.2 5 0 + κ.2.2 5 1 + κ.2.2 5 2 + κ.2.2 5 3 + κ.2.2 5 4 = _
    rw [e0, e1, e2, e3, e4, nI_add, nI_add, nI_add, nI_add, nI_add]
  · rcases (show p = 0 ∨ p = 1 ∨ p = 2 ∨ p = 3 ∨ p = 4 by omega) with rfl | rfl | rfl | rfl | rfl
    · rw [e0, nI_eq (by omega) (by omega)] at he; omega
    · rw [e1, nI_eq (by omega) (by omega)] at he; omega
    · rw [e2, nI_eq (by omega) (by omega)] at he; omega
    · rw [e3, nI_eq (by omega) (by omega)] at he; omega
    · rw [e4, nI_eq (by omega) (by omega)] at he; omega
theorem part01 {k : Int32} (h : inR k 0 1 = true) : k = 0 ∨ k = 1 := by
  by_cases h0 : k = 0
  · exact Or.inl h0
  · exact Or.inr (a01 h h0)
theorem x_share (w : aW) {X : aX} (hW : WF X.1) (x part : Int32) : f_X3_share 0 x part (putX w X) = some (shareK x part X.1, putX w X) := by
  unfold f_X3_share shareK
  by_cases h1 : inR x 0 4 = true
  · by_cases h2 : inR part 0 1 = true
    · obtain ⟨p, hp, rfl⟩ := inP h1
      obtain ⟨m, hm, em⟩ := (hW.2.2.1 p hp).1
      obtain ⟨s, hs, es, hle⟩ := means_sum hW
      have hms := hle p m hp hm em
      have hf := p_frac (putX w X) (a := m) (b := s) (by omega) (by omega) (by omega) (part01 h2)
      simp only [h1, h2, gR_X0, gR_X1, gR_X2, gI_X3, gR_X4, gR_X5, gR_X6, cV_X, x_think, xmind_1, xmind_0, xmind_2, xnow_0, xnow_1, xnow_2, bk_some, bind_some', zb_0, zb_1, zb_or, cc_or, N_cV, N_gI0, N_gI1, N_gI2, N_gI3, N_gR4, N_gR5, N_gR6, N_gR7, N_gR8, N_gR9, N_gR10, N_gR11, N_gR12, N_hasBeast, N_isAlive, N_calledBy, N_calledByAnybody, N_needTogether, N_workTogether, N_freeOnes, p_isPerson, p_within, N_gA5 w X hp, N_meansOfAll, em, es, nI_l (show m < 2 ^ 31 by omega), nI_l (show s < 2 ^ 31 by omega), hf, ix_nI (show p < 2 ^ 31 by omega), ix_nI (show m < 2 ^ 31 by omega), ix_nI (show s < 2 ^ 31 by omega), if_true, if_false, not_true_eq_false, not_false_eq_true, Bool.false_eq_true, Bool.true_eq_false, reduceIte, ite_true, ite_false]
    · have h2 := Bool.eq_false_iff.mpr h2
      simp only [h1, h2, gR_X0, gR_X1, gR_X2, gI_X3, gR_X4, gR_X5, gR_X6, cV_X, x_think, xmind_1, xmind_0, xmind_2, xnow_0, xnow_1, xnow_2, bk_some, bind_some', zb_0, zb_1, zb_or, cc_or, p_isPerson, p_within, if_true, if_false, not_true_eq_false, not_false_eq_true, Bool.false_eq_true, Bool.true_eq_false, reduceIte, ite_true, ite_false]
  · have h1 := Bool.eq_false_iff.mpr h1
    simp only [h1, gR_X0, gR_X1, gR_X2, gI_X3, gR_X4, gR_X5, gR_X6, cV_X, x_think, xmind_1, xmind_0, xmind_2, xnow_0, xnow_1, xnow_2, bk_some, bind_some', zb_0, zb_1, zb_or, cc_or, p_isPerson, if_true, if_false, not_true_eq_false, not_false_eq_true, Bool.false_eq_true, Bool.true_eq_false, reduceIte, ite_true, ite_false]
theorem m_share (w : aW) (Y : aY) {κ : aK} (hW : WF κ) (x part : Int32) : f_X4_share 50 x part (putY w κ Y) = some (shareK x part κ, putY w κ (yint Y 1 0)) := by
  unfold f_X4_share shareK
  have e1 := p_in32 (x := part) (a := 0) (b := 1) (a' := 0) (b' := 1) rfl rfl
  by_cases h1 : inR x 0 4 = true
  · by_cases h2 : inR part 0 1 = true
    · obtain ⟨p, hp, rfl⟩ := inP h1
      obtain ⟨m, hm, em⟩ := (hW.2.2.1 p hp).1
      obtain ⟨s, hs, es, hle⟩ := means_sum hW
      have hms := hle p m hp hm em
      have hf := m_frac (putY w κ (yint Y 1 0)) (a := m) (b := s) (by omega) (by omega) (by omega) part
      simp only [h1, h2, e1, m_isPerson, sF_Y19, gI_Y0, gR_Y1, gR_Y2, gR_Y3, gR_Y4, gR_Y5, gI_Y6, gR_Y7, gR_Y8, gR_Y9, gR_Y10, gI_Y11, gI_Y12, gR_Y13, gR_Y14, gR_Y15, gR_Y16, gR_Y17, gR_Y18, gI_Y19, gI_Y20, gI_Y21, gI_Y22, gI_Y23, gR_Y24, gR_Y25, gR_Y26, gR_Y27, gR_Y28, gI_Y29, gI_Y30, gI_Y31, gR_Y33, gR_Y34, gI_Y35, gR_Y36, cV_Y, bk_some, bind_some', zb_0, zb_1, zb_or, cc_or, kset_1, kset_21, kint_1, kint_21, kint_22, putY_moved, gA_Y56 w κ _ hp, m_allMeans, em, es, nI_l (show m < 2 ^ 31 by omega), nI_l (show s < 2 ^ 31 by omega), hf, ix_nI (show p < 2 ^ 31 by omega), ix_nI (show m < 2 ^ 31 by omega), ix_nI (show s < 2 ^ 31 by omega), if_true, if_false, not_true_eq_false, not_false_eq_true, Bool.false_eq_true, Bool.true_eq_false, reduceIte, ite_true, ite_false]
    · have h2 := Bool.eq_false_iff.mpr h2
      simp only [h1, h2, e1, m_isPerson, sF_Y19, gI_Y0, gR_Y1, gR_Y2, gR_Y3, gR_Y4, gR_Y5, gI_Y6, gR_Y7, gR_Y8, gR_Y9, gR_Y10, gI_Y11, gI_Y12, gR_Y13, gR_Y14, gR_Y15, gR_Y16, gR_Y17, gR_Y18, gI_Y19, gI_Y20, gI_Y21, gI_Y22, gI_Y23, gR_Y24, gR_Y25, gR_Y26, gR_Y27, gR_Y28, gI_Y29, gI_Y30, gI_Y31, gR_Y33, gR_Y34, gI_Y35, gR_Y36, cV_Y, bk_some, bind_some', zb_0, zb_1, zb_or, cc_or, kset_1, kset_21, kint_1, kint_21, kint_22, putY_moved, if_true, if_false, not_true_eq_false, not_false_eq_true, Bool.false_eq_true, Bool.true_eq_false, reduceIte, ite_true, ite_false]
  · have h1 := Bool.eq_false_iff.mpr h1
    simp only [h1, m_isPerson, sF_Y19, gI_Y0, gR_Y1, gR_Y2, gR_Y3, gR_Y4, gR_Y5, gI_Y6, gR_Y7, gR_Y8, gR_Y9, gR_Y10, gI_Y11, gI_Y12, gR_Y13, gR_Y14, gR_Y15, gR_Y16, gR_Y17, gR_Y18, gI_Y19, gI_Y20, gI_Y21, gI_Y22, gI_Y23, gR_Y24, gR_Y25, gR_Y26, gR_Y27, gR_Y28, gI_Y29, gI_Y30, gI_Y31, gR_Y33, gR_Y34, gI_Y35, gR_Y36, cV_Y, bk_some, bind_some', zb_0, zb_1, zb_or, cc_or, kset_1, kset_21, kint_1, kint_21, kint_22, putY_moved, if_true, if_false, not_true_eq_false, not_false_eq_true, Bool.false_eq_true, Bool.true_eq_false, reduceIte, ite_true, ite_false]
