/-! PURE: the model reads a text whole -/
def toldOk (ν : aS) (p : Nat) (y : aY) (k : Nat) : Prop :=
  (atN ν p = 98 → y.2.1 7 (4 * k) = nmK ν (p + 1) 1 ∧ y.2.1 7 (4 * k + 1) = nmK ν (p + 2) 1 ∧ y.2.1 7 (4 * k + 2) = nmK ν (p + 3) 2) ∧
  (atN ν p = 99 → y.2.1 7 (4 * k) = nmK ν (p + 1) 1 ∧ y.2.1 7 (4 * k + 1) = nmK ν (p + 2) 1) ∧
  (atN ν p = 100 → y.2.1 7 (4 * k) = nmK ν (p + 1) 2) ∧
  (atN ν p = 103 → y.2.1 7 (4 * k) = nmK ν (p + 1) 1 ∧ y.2.1 7 (4 * k + 2) = nmK ν (p + 2) 2) ∧
  (atN ν p = 112 → y.2.1 7 (4 * k) = nmK ν (p + 1) 1 ∧ y.2.1 7 (4 * k + 1) = nmK ν (p + 2) 1 ∧ y.2.1 7 (4 * k + 2) = nmK ν (p + 3) 2 ∧ y.2.1 7 (4 * k + 3) = nmK ν (p + 5) 3) ∧
  (atN ν p = 117 → y.2.1 7 (4 * k) = nmK ν (p + 1) 1)
theorem dig_cases {c : Int32} (h : ¬ digN c = 0) : c = 98 ∨ c = 99 ∨ c = 100 ∨ c = 103 ∨ c = 112 ∨ c = 117 := by
  by_cases h98 : c = 98
  · exact Or.inl h98
  by_cases h99 : c = 99
  · exact Or.inr (Or.inl h99)
  by_cases h100 : c = 100
  · exact Or.inr (Or.inr (Or.inl h100))
  by_cases h103 : c = 103
  · exact Or.inr (Or.inr (Or.inr (Or.inl h103)))
  by_cases h112 : c = 112
  · exact Or.inr (Or.inr (Or.inr (Or.inr (Or.inl h112))))
  by_cases h117 : c = 117
  · exact Or.inr (Or.inr (Or.inr (Or.inr (Or.inr h117))))
  exfalso
  unfold digN at h
  simp only [h98, h99, h100, h103, h112, h117, if_false] at h
  exact h trivial
theorem ne_c {a b c : Int32} (h1 : c = a) (h : ¬ a = b) : ¬ c = b := fun z => h (h1.symm.trans z)
theorem m_numbers (w : aW) (κ : aK) {σ : Nat → aS} {d N : Nat} (hT : Txt σ d N) {p k : Nat} {Y : aY} (hp : p < 800) (hk : k < 51) (hC : Cp σ Y) (hr : Y.1 2 = nI d) (hS : St Y (p + 1) none) (hl : ¬ digN (atN (σ d) p) = 0) : ∃ Y', f_X4_readNumbers 50 (atN (σ d) p) (nI (4 * k)) (putY w κ Y) = some ((), putY w κ Y') ∧ RN Y Y' (4 * k) ∧ St Y' (p + 1 + digN (atN (σ d) p)) (bdF (σ d) (p + 1) (digN (atN (σ d) p))) ∧ (bdF (σ d) (p + 1) (digN (atN (σ d) p)) = none → toldOk (σ d) p Y' k) := by
  have r1 := fun q => (rd_nm (ν := σ d) q).1
  have r2 := fun q => (rd_nm (ν := σ d) q).2.1
  have r3 := fun q => (rd_nm (ν := σ d) q).2.2
  rcases dig_cases hl with hc | hc | hc | hc | hc | hc
  · rw [hc]
    obtain ⟨Y', h1, h2, h3, h4⟩ := rn_98 w κ hT (q := p + 1) (i := 4 * k) (by omega) (by omega) hC hr hS
    refine ⟨Y', h1, h2, h3, fun hn => ?_⟩
    have h4 := h4 hn
    rw [r1, r1, r2] at h4
    exact ⟨fun _ => h4, fun z => absurd z (ne_c hc (by decide)), fun z => absurd z (ne_c hc (by decide)), fun z => absurd z (ne_c hc (by decide)), fun z => absurd z (ne_c hc (by decide)), fun z => absurd z (ne_c hc (by decide))⟩
  · rw [hc]
    obtain ⟨Y', h1, h2, h3, h4⟩ := rn_99 w κ hT (q := p + 1) (i := 4 * k) (by omega) (by omega) hC hr hS
    refine ⟨Y', h1, h2, h3, fun hn => ?_⟩
    have h4 := h4 hn
    rw [r1, r1] at h4
    exact ⟨fun z => absurd z (ne_c hc (by decide)), fun _ => h4, fun z => absurd z (ne_c hc (by decide)), fun z => absurd z (ne_c hc (by decide)), fun z => absurd z (ne_c hc (by decide)), fun z => absurd z (ne_c hc (by decide))⟩
  · rw [hc]
    obtain ⟨Y', h1, h2, h3, h4⟩ := rn_100 w κ hT (q := p + 1) (i := 4 * k) (by omega) (by omega) hC hr hS
    refine ⟨Y', h1, h2, h3, fun hn => ?_⟩
    have h4 := h4 hn
    rw [r2] at h4
    exact ⟨fun z => absurd z (ne_c hc (by decide)), fun z => absurd z (ne_c hc (by decide)), fun _ => h4, fun z => absurd z (ne_c hc (by decide)), fun z => absurd z (ne_c hc (by decide)), fun z => absurd z (ne_c hc (by decide))⟩
  · rw [hc]
    obtain ⟨Y', h1, h2, h3, h4⟩ := rn_103 w κ hT (q := p + 1) (i := 4 * k) (by omega) (by omega) hC hr hS
    refine ⟨Y', h1, h2, h3, fun hn => ?_⟩
    have h4 := h4 hn
    rw [r1, r2] at h4
    exact ⟨fun z => absurd z (ne_c hc (by decide)), fun z => absurd z (ne_c hc (by decide)), fun z => absurd z (ne_c hc (by decide)), fun _ => h4, fun z => absurd z (ne_c hc (by decide)), fun z => absurd z (ne_c hc (by decide))⟩
  · rw [hc]
    obtain ⟨Y', h1, h2, h3, h4⟩ := rn_112 w κ hT (q := p + 1) (i := 4 * k) (by omega) (by omega) hC hr hS
    refine ⟨Y', h1, h2, h3, fun hn => ?_⟩
    have h4 := h4 hn
    rw [r1, r1, r2, r3] at h4
    exact ⟨fun z => absurd z (ne_c hc (by decide)), fun z => absurd z (ne_c hc (by decide)), fun z => absurd z (ne_c hc (by decide)), fun z => absurd z (ne_c hc (by decide)), fun _ => h4, fun z => absurd z (ne_c hc (by decide))⟩
  · rw [hc]
    obtain ⟨Y', h1, h2, h3, h4⟩ := rn_117 w κ hT (q := p + 1) (i := 4 * k) (by omega) (by omega) hC hr hS
    refine ⟨Y', h1, h2, h3, fun hn => ?_⟩
    have h4 := h4 hn
    rw [r1] at h4
    exact ⟨fun z => absurd z (ne_c hc (by decide)), fun z => absurd z (ne_c hc (by decide)), fun z => absurd z (ne_c hc (by decide)), fun z => absurd z (ne_c hc (by decide)), fun z => absurd z (ne_c hc (by decide)), fun _ => h4⟩
theorem p_isLetter (c : Int32) (w : aW) : f_X4_isLetter c w = some (zb (!decide (digN c = 0)), w) := by
  by_cases hl : digN c = 0
  · rw [decide_eq_true hl]
    have h98 : ¬ c = 98 := fun z => by rw [z] at hl; exact absurd hl (by decide)
    have h99 : ¬ c = 99 := fun z => by rw [z] at hl; exact absurd hl (by decide)
    have h100 : ¬ c = 100 := fun z => by rw [z] at hl; exact absurd hl (by decide)
    have h103 : ¬ c = 103 := fun z => by rw [z] at hl; exact absurd hl (by decide)
    have h112 : ¬ c = 112 := fun z => by rw [z] at hl; exact absurd hl (by decide)
    have h117 : ¬ c = 117 := fun z => by rw [z] at hl; exact absurd hl (by decide)
    unfold f_X4_isLetter
    simp only [h98, h99, h100, h103, h112, h117, if_true, if_false, not_true_eq_false, not_false_eq_true, Bool.false_eq_true, Bool.true_eq_false, reduceIte, ite_true, ite_false]
    rfl
  · rw [decide_eq_false hl]
    rcases dig_cases hl with h | h | h | h | h | h <;> subst h <;> rfl
theorem read_end (w : aW) (κ : aK) {σ : Nat → aS} {d N : Nat} (hT : Txt σ d N) {q : Nat} {o : Option Nat} {Y : aY} (hq : q < 2 ^ 31) (hC : Cp σ Y) (hr : Y.1 2 = nI d) (hS : St Y q o) : ∃ Y', c_X4_readStatement_86 50 (putY w κ Y) = some ((), putY w κ Y') ∧ Y'.2 = Y.2 ∧ (∀ z, z ≠ 3 → z ≠ 4 → z ≠ 5 → Y'.1 z = Y.1 z) ∧ Y'.1 5 = Y.1 5 + 1 ∧ St Y' (q + 1) (orO o (endB (σ d) q)) := by
  cases o with
  | some z =>
    have h3 : Y.1 3 = nI z := hS.1
    have h4 : Y.1 4 = 1 := hS.2
    have e4 : yint Y 4 1 = Y := yint_self Y 4 1 h4
    have e3 : yint Y 3 (Y.1 3) = Y := yint_self Y 3 _ rfl
    refine ⟨yint Y 5 (Y.1 5 + 1), ?_, rfl, fun z' _ _ h5 => yint_ne Y _ h5, yint_at _ _ _, ⟨(yint_ne Y _ (by decide)).trans h3, (yint_ne Y _ (by decide)).trans h4⟩⟩
    simp only [c_X4_readStatement_86, c_X4_readStatement_108, gI_Y0, gR_Y1, gR_Y2, gR_Y3, gR_Y4, gR_Y5, gI_Y6, gR_Y7, gR_Y8, gR_Y9, gR_Y10, gI_Y11, gI_Y12, gR_Y13, gR_Y14, gR_Y15, gR_Y16, gR_Y17, gR_Y18, gI_Y19, gI_Y20, gI_Y21, gI_Y22, gI_Y23, gR_Y24, gR_Y25, gR_Y26, gR_Y27, gR_Y28, gI_Y29, gI_Y30, gI_Y31, gR_Y33, gR_Y34, gI_Y35, gR_Y36, cV_Y, bk_some, bind_some', zb_0, zb_1, zb_or, cc_or, kset_1, kset_21, kint_1, kint_21, kint_22, putY_moved, h4, sF_Y22, sF_Y21, sF_Y23, e4, i32_add0, e3, show ¬ (1 : Int32) = 0 by decide, or_true, if_true, if_false, not_true_eq_false, not_false_eq_true, Bool.false_eq_true, Bool.true_eq_false, reduceIte, ite_true, ite_false]
  | none =>
    have h3 : Y.1 3 = nI q := hS.1
    have h4 : Y.1 4 = 0 := hS.2
    have hh := m_here w κ hC hT hr h3 hq
    have h59 := here_59 hT.2.1 hT.2.2.2 hq
    show ∃ Y', _ ∧ _ ∧ _ ∧ _ ∧ St Y' (q + 1) (endB (σ d) q)
    unfold endB
    by_cases hc : atN (σ d) q = 59
    · rw [if_pos hc]
      have e4 : yint Y 4 0 = Y := yint_self Y 4 0 h4
      have hc' : hereK (σ d) N q = 59 := h59 ▸ hc
      have e5 : (yint Y 3 (nI (q + 1))).1 5 = Y.1 5 := yint_ne Y _ (by decide)
      refine ⟨yint (yint Y 3 (nI (q + 1))) 5 (Y.1 5 + 1), ?_, rfl, fun z' g3 _ g5 => (yint_ne _ _ g5).trans (yint_ne _ _ g3), yint_at _ _ _, ⟨(yint_ne _ _ (by decide)).trans (yint_at _ _ _), ((yint_ne _ _ (by decide)).trans (yint_ne _ _ (by decide))).trans h4⟩⟩
      simp only [c_X4_readStatement_86, c_X4_readStatement_108, gI_Y0, gR_Y1, gR_Y2, gR_Y3, gR_Y4, gR_Y5, gI_Y6, gR_Y7, gR_Y8, gR_Y9, gR_Y10, gI_Y11, gI_Y12, gR_Y13, gR_Y14, gR_Y15, gR_Y16, gR_Y17, gR_Y18, gI_Y19, gI_Y20, gI_Y21, gI_Y22, gI_Y23, gR_Y24, gR_Y25, gR_Y26, gR_Y27, gR_Y28, gI_Y29, gI_Y30, gI_Y31, gR_Y33, gR_Y34, gI_Y35, gR_Y36, cV_Y, bk_some, bind_some', zb_0, zb_1, zb_or, cc_or, kset_1, kset_21, kint_1, kint_21, kint_22, putY_moved, h4, hh, hc', sF_Y22, sF_Y21, sF_Y23, e4, h3, e5, true_or, nI_1, if_true, if_false, not_true_eq_false, not_false_eq_true, Bool.false_eq_true, Bool.true_eq_false, reduceIte, ite_true, ite_false]
    · rw [if_neg hc]
      have hc' : ¬ hereK (σ d) N q = 59 := h59 ▸ hc
      have q4 : (yint Y 4 1).1 4 = 1 := yint_at _ _ _
      have q3 : (yint Y 4 1).1 3 = Y.1 3 := yint_ne _ _ (by decide)
      have q5 : (yint Y 4 1).1 5 = Y.1 5 := yint_ne _ _ (by decide)
      have e3 : yint (yint Y 4 1) 3 (Y.1 3) = yint Y 4 1 := yint_self _ 3 _ q3
      refine ⟨yint (yint Y 4 1) 5 (Y.1 5 + 1), ?_, rfl, fun z' _ g4 g5 => (yint_ne _ _ g5).trans (yint_ne _ _ g4), yint_at _ _ _, ⟨((yint_ne _ _ (by decide)).trans (yint_ne _ _ (by decide))).trans h3, (yint_ne _ _ (by decide)).trans (yint_at _ _ _)⟩⟩
      simp only [c_X4_readStatement_86, c_X4_readStatement_108, gI_Y0, gR_Y1, gR_Y2, gR_Y3, gR_Y4, gR_Y5, gI_Y6, gR_Y7, gR_Y8, gR_Y9, gR_Y10, gI_Y11, gI_Y12, gR_Y13, gR_Y14, gR_Y15, gR_Y16, gR_Y17, gR_Y18, gI_Y19, gI_Y20, gI_Y21, gI_Y22, gI_Y23, gR_Y24, gR_Y25, gR_Y26, gR_Y27, gR_Y28, gI_Y29, gI_Y30, gI_Y31, gR_Y33, gR_Y34, gI_Y35, gR_Y36, cV_Y, bk_some, bind_some', zb_0, zb_1, zb_or, cc_or, kset_1, kset_21, kint_1, kint_21, kint_22, putY_moved, h4, hh, hc', sF_Y22, sF_Y21, sF_Y23, q4, q3, q5, i32_add0, e3, show ¬ (1 : Int32) = 0 by decide, or_true, if_true, if_false, not_true_eq_false, not_false_eq_true, Bool.false_eq_true, Bool.true_eq_false, reduceIte, ite_true, ite_false]
def RS (Y Y' : aY) (k : Nat) : Prop := (∀ z, z ≠ 3 → z ≠ 4 → z ≠ 5 → Y'.1 z = Y.1 z) ∧ (∀ r, r ≠ 5 → r ≠ 6 → r ≠ 7 → Y'.2.1 r = Y.2.1 r) ∧ (∀ z, z ≠ k → Y'.2.1 5 z = Y.2.1 5 z ∧ Y'.2.1 6 z = Y.2.1 6 z) ∧ (∀ z, z < 4 * k ∨ 4 * k + 4 ≤ z → Y'.2.1 7 z = Y.2.1 7 z) ∧ Y'.2.2 = Y.2.2
theorem m_four (k : Nat) : (4 : Int32) * nI k = nI (4 * k) := pk_mul 4 k
theorem told_of {ν : aS} {p : Nat} {y y' : aY} {k : Nat} (h : toldOk ν p y k) (e : ∀ z, 4 * k ≤ z → z < 4 * k + 4 → y'.2.1 7 z = y.2.1 7 z) : toldOk ν p y' k := by
  unfold toldOk at h ⊢
  rw [e (4 * k) (by omega) (by omega), e (4 * k + 1) (by omega) (by omega), e (4 * k + 2) (by omega) (by omega), e (4 * k + 3) (by omega) (by omega)]
  exact h
theorem m_readSt (w : aW) (κ : aK) {σ : Nat → aS} {d N : Nat} (hT : Txt σ d N) {k p : Nat} {Y : aY} (hp : p < 500) (hk : k < 51) (hC : Cp σ Y) (hr : Y.1 2 = nI d) (h5 : Y.1 5 = nI k) (hS : St Y p none) : ∃ Y', f_X4_readStatement 50 (putY w κ Y) = some ((), putY w κ Y') ∧ RS Y Y' k ∧ Y'.1 5 = nI (k + 1) ∧ St Y' (p + 2 + digN (atN (σ d) p)) (badIn (σ d) p) ∧ (badIn (σ d) p = none → Y'.2.1 5 k = nI p ∧ Y'.2.1 6 k = atN (σ d) p ∧ toldOk (σ d) p Y' k) := by
  have h3 : Y.1 3 = nI p := hS.1
  have h4 : Y.1 4 = 0 := hS.2
  have hh := m_here w κ hC hT hr h3 (show p < 2 ^ 31 by omega)
  have hdg := here_dig hT.2.1 hT.2.2.2 (show p < 2 ^ 31 by omega)
  have hC0 : Cp σ (yset (yset Y 5 k (nI p)) 6 k (hereK (σ d) N p)) := hC.of (fun r hr => funext fun z => (yset_k _ _ _ (by omega)).trans (yset_k _ _ _ (by omega))) rfl
  by_cases hl : digN (atN (σ d) p) = 0
  · have hb : badIn (σ d) p = some p := by unfold badIn; rw [if_pos hl]
    rw [hb]
    have hbad : St (yint (yset (yset Y 5 k (nI p)) 6 k (hereK (σ d) N p)) 4 1) p (some p) := ⟨(yint_ne _ _ (by decide)).trans h3, yint_at _ _ _⟩
    obtain ⟨Y', g1, g2, g3, g4, g5⟩ := read_end w κ hT (q := p) (o := some p) (Y := yint (yset (yset Y 5 k (nI p)) 6 k (hereK (σ d) N p)) 4 1) (by omega) (hC0.same (SameB.y4 _ _)) ((yint_ne _ _ (by decide)).trans hr) hbad
    have q3 : (yint (yset (yset Y 5 k (nI p)) 6 k (hereK (σ d) N p)) 4 1).1 3 = nI p := hbad.1
    have q4 : (yint (yset (yset Y 5 k (nI p)) 6 k (hereK (σ d) N p)) 4 1).1 4 = 1 := hbad.2
    have e3 : yint (yint (yset (yset Y 5 k (nI p)) 6 k (hereK (σ d) N p)) 4 1) 3 (nI p) = yint (yset (yset Y 5 k (nI p)) 6 k (hereK (σ d) N p)) 4 1 := yint_self _ 3 _ q3
    refine ⟨Y', ?_, ⟨fun z z3 z4 z5 => (g3 z z3 z4 z5).trans (yint_ne _ _ z4), fun r r5 r6 _ => ?_, fun z hz => ⟨?_, ?_⟩, fun z _ => ?_, ?_⟩, ?_, g5, fun z => (by cases z)⟩
    · have x4 : (yset (yset Y 5 k (nI p)) 6 k (hereK (σ d) N p)).1 4 = 0 := h4
      unfold f_X4_readStatement
      simp only [c_X4_readStatement_47, c_X4_readStatement_67, gI_Y0, gR_Y1, gR_Y2, gR_Y3, gR_Y4, gR_Y5, gI_Y6, gR_Y7, gR_Y8, gR_Y9, gR_Y10, gI_Y11, gI_Y12, gR_Y13, gR_Y14, gR_Y15, gR_Y16, gR_Y17, gR_Y18, gI_Y19, gI_Y20, gI_Y21, gI_Y22, gI_Y23, gR_Y24, gR_Y25, gR_Y26, gR_Y27, gR_Y28, gI_Y29, gI_Y30, gI_Y31, gR_Y33, gR_Y34, gI_Y35, gR_Y36, cV_Y, bk_some, bind_some', zb_0, zb_1, zb_or, cc_or, kset_1, kset_21, kint_1, kint_21, kint_22, putY_moved, h5, hh, h3, h4, sA_Y66 w κ _ hk, sA_Y67 w κ _ hk, x4, p_isLetter, hdg, hl, decide_true, Bool.not_true, sF_Y22, sF_Y21, q3, q4, i32_add0, e3, g1, show ¬ (1 : Int32) = 0 by decide, or_true, if_true, if_false, not_true_eq_false, not_false_eq_true, Bool.false_eq_true, Bool.true_eq_false, reduceIte, ite_true, ite_false]
    · rw [g2]
      exact funext fun z => (yset_k _ _ _ r6).trans (yset_k _ _ _ r5)
    · rw [g2]
      exact (yset_oth _ _ _ _ hz).trans (yset_oth _ _ _ _ hz)
    · rw [g2]
      exact (yset_oth _ _ _ _ hz).trans (yset_oth _ _ _ _ hz)
    · rw [g2]
      exact (yset_k _ _ _ (by decide)).trans (yset_k _ _ _ (by decide))
    · rw [g2]; rfl
    · rw [g4, yint_ne _ _ (by decide)]
      show Y.1 5 + 1 = _
      rw [h5, nI_1]
  · have hhe := here_eq hT.2.1 hT.2.2.2 (show p < 2 ^ 31 by omega) hl
    rw [hhe] at hh hC0
    have hst1 : St (yint (yset (yset Y 5 k (nI p)) 6 k (atN (σ d) p)) 3 (nI (p + 1))) (p + 1) none := ⟨yint_at _ _ _, (yint_ne _ _ (by decide)).trans h4⟩
    have hC1 := hC0.same (SameB.y3 _ (nI (p + 1)))
    obtain ⟨A, a1, a2, a3, a4⟩ := m_numbers w κ hT (p := p) (k := k) (Y := yint (yset (yset Y 5 k (nI p)) 6 k (atN (σ d) p)) 3 (nI (p + 1))) (by omega) hk hC1 ((yint_ne _ _ (by decide)).trans hr) hst1 hl
    have hD := dig_le (atN (σ d) p)
    have hrA : A.1 2 = nI d := (a2.1 2 (by decide) (by decide)).trans ((yint_ne _ _ (by decide)).trans hr)
    obtain ⟨Y', g1, g2, g3, g4, g5⟩ := read_end w κ hT (q := p + 1 + digN (atN (σ d) p)) (Y := A) (by omega) (hC1.rn a2) hrA a3
    have hb : badIn (σ d) p = orO (bdF (σ d) (p + 1) (digN (atN (σ d) p))) (endB (σ d) (p + 1 + digN (atN (σ d) p))) := by unfold badIn; rw [if_neg hl]
    rw [hb]
    have k5 : ∀ z, A.2.1 5 z = (yset (yset Y 5 k (nI p)) 6 k (atN (σ d) p)).2.1 5 z := fun z => congrFun (a2.2.1 5 (by decide)) z
    have k6 : ∀ z, A.2.1 6 z = (yset (yset Y 5 k (nI p)) 6 k (atN (σ d) p)).2.1 6 z := fun z => congrFun (a2.2.1 6 (by decide)) z
    refine ⟨Y', ?_, ⟨fun z z3 z4 z5 => (g3 z z3 z4 z5).trans ((a2.1 z z3 z4).trans (yint_ne _ _ z3)), fun r r5 r6 r7 => ?_, fun z hz => ⟨?_, ?_⟩, fun z hz => ?_, ?_⟩, ?_, ?_, fun hn => ⟨?_, ?_, ?_⟩⟩
    · have x4 : (yset (yset Y 5 k (nI p)) 6 k (atN (σ d) p)).1 4 = 0 := h4
      have x3 : (yset (yset Y 5 k (nI p)) 6 k (atN (σ d) p)).1 3 = nI p := h3
      have e4 : yint (yset (yset Y 5 k (nI p)) 6 k (atN (σ d) p)) 4 0 = yset (yset Y 5 k (nI p)) 6 k (atN (σ d) p) := yint_self _ 4 _ x4
      have y4 : (yint (yset (yset Y 5 k (nI p)) 6 k (atN (σ d) p)) 3 (nI (p + 1))).1 4 = 0 := hst1.2
      unfold f_X4_readStatement
      simp only [c_X4_readStatement_47, c_X4_readStatement_67, gI_Y0, gR_Y1, gR_Y2, gR_Y3, gR_Y4, gR_Y5, gI_Y6, gR_Y7, gR_Y8, gR_Y9, gR_Y10, gI_Y11, gI_Y12, gR_Y13, gR_Y14, gR_Y15, gR_Y16, gR_Y17, gR_Y18, gI_Y19, gI_Y20, gI_Y21, gI_Y22, gI_Y23, gR_Y24, gR_Y25, gR_Y26, gR_Y27, gR_Y28, gI_Y29, gI_Y30, gI_Y31, gR_Y33, gR_Y34, gI_Y35, gR_Y36, cV_Y, bk_some, bind_some', zb_0, zb_1, zb_or, cc_or, kset_1, kset_21, kint_1, kint_21, kint_22, putY_moved, h5, hh, h3, h4, sA_Y66 w κ _ hk, sA_Y67 w κ _ hk, x4, x3, p_isLetter, decide_eq_false hl, Bool.not_false, sF_Y22, sF_Y21, e4, y4, m_four, a1, g1, show ¬ (1 : Int32) = 0 by decide, true_or, nI_1, if_true, if_false, not_true_eq_false, not_false_eq_true, Bool.false_eq_true, Bool.true_eq_false, reduceIte, ite_true, ite_false]
    · rw [g2, a2.2.1 r r7]
      exact funext fun z => (yset_k _ _ _ r6).trans (yset_k _ _ _ r5)
    · rw [g2, k5]
      exact (yset_oth _ _ _ _ hz).trans (yset_oth _ _ _ _ hz)
    · rw [g2, k6]
      exact (yset_oth _ _ _ _ hz).trans (yset_oth _ _ _ _ hz)
    · rw [g2, a2.2.2.1 z hz]
      exact (yset_k _ _ _ (by decide)).trans (yset_k _ _ _ (by decide))
    · rw [g2, a2.2.2.2]; rfl
    · rw [g4, a2.1 5 (by decide) (by decide), yint_ne _ _ (by decide)]
      show Y.1 5 + 1 = _
      rw [h5, nI_1]
    · have e : p + 1 + digN (atN (σ d) p) + 1 = p + 2 + digN (atN (σ d) p) := by omega
      rw [← e]
      exact g5
    · rw [g2, k5, yset_k _ _ _ (by decide), yset_at]
    · rw [g2, k6, yset_at]
    · exact told_of (a4 (orO_l hn)) (fun z _ _ => by rw [g2])
/-- what stands read of the first j statements -/
def Red (ν : aS) (Y : aY) (j : Nat) : Prop := ∀ i, i < j → Y.2.1 5 i = nI (stP ν i) ∧ Y.2.1 6 i = atN ν (stP ν i) ∧ toldOk ν (stP ν i) Y i
def RT (Y Y' : aY) : Prop := (∀ z, z ≠ 3 → z ≠ 4 → z ≠ 5 → Y'.1 z = Y.1 z) ∧ (∀ r, r ≠ 5 → r ≠ 6 → r ≠ 7 → Y'.2.1 r = Y.2.1 r) ∧ Y'.2.2 = Y.2.2
theorem RS.rt {Y Y' : aY} {k : Nat} (h : RS Y Y' k) : RT Y Y' := ⟨h.1, h.2.1, h.2.2.2.2⟩
theorem RT.trans {a b c : aY} (h1 : RT a b) (h2 : RT b c) : RT a c := ⟨fun z x3 x4 x5 => (h2.1 z x3 x4 x5).trans (h1.1 z x3 x4 x5), fun r x5 x6 x7 => (h2.2.1 r x5 x6 x7).trans (h1.2.1 r x5 x6 x7), h2.2.2.trans h1.2.2⟩
theorem Cp.rt {σ : Nat → aS} {y y' : aY} (h : Cp σ y) (e : RT y y') : Cp σ y' := h.of (fun k hk => e.2.1 k (by omega) (by omega) (by omega)) (by rw [e.2.2])
theorem RT.yk {Y Y' : aY} (h : RT Y Y') : Yk Y Y' := ⟨⟨h.1 0 (by decide) (by decide) (by decide), h.1 6 (by decide) (by decide) (by decide), fun k hk => h.2.1 k (by omega) (by omega) (by omega), by rw [h.2.2]⟩, h.2.1 9 (by decide) (by decide) (by decide)⟩
theorem red_more {ν : aS} {Y Y' : aY} {k : Nat} (h : Red ν Y k) (e : RS Y Y' k) (hn : Y'.2.1 5 k = nI (stP ν k) ∧ Y'.2.1 6 k = atN ν (stP ν k) ∧ toldOk ν (stP ν k) Y' k) : Red ν Y' (k + 1) := by
  intro i hi
  by_cases hik : i = k
  · rw [hik]; exact hn
  · obtain ⟨h1, h2, h3⟩ := h i (by omega)
    refine ⟨((e.2.2.1 i hik).1).trans h1, ((e.2.2.1 i hik).2).trans h2, told_of h3 (fun z z1 z2 => e.2.2.2.1 z (by omega))⟩
theorem loop1_s {β : Type} (B : (aW → Option β) → aW → Option β) (n : Nat) : loop1 B (n + 1) = B (loop1 B n) := rfl
theorem read_bad (w : aW) (κ : aK) (x : Int32) (k : aW → Option (Int32 × aW)) {Y : aY} {q q' : Nat} (hS : St Y q' (some q)) : c_X4_mountain_57 50 x k (putY w κ Y) = some (-1000 - nI q, putY w κ Y) := by
  have h3 : Y.1 3 = nI q := hS.1
  have h4 : Y.1 4 = 1 := hS.2
  simp only [c_X4_mountain_57, c_X4_mountain_91, gI_Y0, gR_Y1, gR_Y2, gR_Y3, gR_Y4, gR_Y5, gI_Y6, gR_Y7, gR_Y8, gR_Y9, gR_Y10, gI_Y11, gI_Y12, gR_Y13, gR_Y14, gR_Y15, gR_Y16, gR_Y17, gR_Y18, gI_Y19, gI_Y20, gI_Y21, gI_Y22, gI_Y23, gR_Y24, gR_Y25, gR_Y26, gR_Y27, gR_Y28, gI_Y29, gI_Y30, gI_Y31, gR_Y33, gR_Y34, gI_Y35, gR_Y36, cV_Y, bk_some, bind_some', zb_0, zb_1, zb_or, cc_or, kset_1, kset_21, kint_1, kint_21, kint_22, putY_moved, h3, h4, show ¬ (1 : Int32) = 0 by decide, if_true, if_false, not_true_eq_false, not_false_eq_true, Bool.false_eq_true, Bool.true_eq_false, reduceIte, ite_true, ite_false]
theorem read_fin (w : aW) (κ : aK) (k : aW → Option (Int32 × aW)) {σ : Nat → aS} {d N : Nat} (hT : Txt σ d N) {Y : aY} {q j : Nat} (hC : Cp σ Y) (hq : q < 2 ^ 31) (h5 : Y.1 5 = nI (j + 1)) (hj : j + 1 < 2 ^ 31) (hS : St Y q none) (hle : N ≤ q) : c_X4_mountain_57 50 (nI d) k (putY w κ Y) = c_X4_mountain_91 50 (nI d) (putY w κ Y) := by
  have h3 : Y.1 3 = nI q := hS.1
  have h4 : Y.1 4 = 0 := hS.2
  obtain ⟨hd, hN, h2, he⟩ := hT
  have hsz := ((hC d hd).2.2.2 h2).2.1
  have hl : nI N ≤ nI q := (nI_leI (by omega) hq).mpr hle
  simp only [c_X4_mountain_57, gI_Y0, gR_Y1, gR_Y2, gR_Y3, gR_Y4, gR_Y5, gI_Y6, gR_Y7, gR_Y8, gR_Y9, gR_Y10, gI_Y11, gI_Y12, gR_Y13, gR_Y14, gR_Y15, gR_Y16, gR_Y17, gR_Y18, gI_Y19, gI_Y20, gI_Y21, gI_Y22, gI_Y23, gR_Y24, gR_Y25, gR_Y26, gR_Y27, gR_Y28, gI_Y29, gI_Y30, gI_Y31, gR_Y33, gR_Y34, gI_Y35, gR_Y36, cV_Y, bk_some, bind_some', zb_0, zb_1, zb_or, cc_or, kset_1, kset_21, kint_1, kint_21, kint_22, putY_moved, h3, h4, h5, nI_ne0 (show 0 < j + 1 by omega) hj, gA_Y64 w κ Y hd, hsz, he, hl, if_true, if_false, not_true_eq_false, not_false_eq_true, Bool.false_eq_true, Bool.true_eq_false, reduceIte, ite_true, ite_false]
theorem read_go (w : aW) (κ : aK) (k : aW → Option (Int32 × aW)) {σ : Nat → aS} {d N : Nat} (hT : Txt σ d N) {Y Y' : aY} {q j : Nat} (hC : Cp σ Y) (hq : q < 2 ^ 31) (h5 : Y.1 5 = nI j) (hj : j < 2 ^ 31) (hS : St Y q none) (hjq : j = 0 ∨ q < N) (hrd : f_X4_readStatement 50 (putY w κ Y) = some ((), putY w κ Y')) : c_X4_mountain_57 50 (nI d) k (putY w κ Y) = k (putY w κ Y') := by
  have h3 : Y.1 3 = nI q := hS.1
  have h4 : Y.1 4 = 0 := hS.2
  obtain ⟨hd, hN, h2, he⟩ := hT
  have hsz := ((hC d hd).2.2.2 h2).2.1
  by_cases h0 : j = 0
  · subst h0
    simp only [c_X4_mountain_57, gI_Y0, gR_Y1, gR_Y2, gR_Y3, gR_Y4, gR_Y5, gI_Y6, gR_Y7, gR_Y8, gR_Y9, gR_Y10, gI_Y11, gI_Y12, gR_Y13, gR_Y14, gR_Y15, gR_Y16, gR_Y17, gR_Y18, gI_Y19, gI_Y20, gI_Y21, gI_Y22, gI_Y23, gR_Y24, gR_Y25, gR_Y26, gR_Y27, gR_Y28, gI_Y29, gI_Y30, gI_Y31, gR_Y33, gR_Y34, gI_Y35, gR_Y36, cV_Y, bk_some, bind_some', zb_0, zb_1, zb_or, cc_or, kset_1, kset_21, kint_1, kint_21, kint_22, putY_moved, h4, h5, show nI 0 = 0 from rfl, hrd, if_true, if_false, not_true_eq_false, not_false_eq_true, Bool.false_eq_true, Bool.true_eq_false, reduceIte, ite_true, ite_false]
  · have hl : ¬ nI N ≤ nI q := le_nIb (by omega) hq (hjq.resolve_left h0)
    simp only [c_X4_mountain_57, gI_Y0, gR_Y1, gR_Y2, gR_Y3, gR_Y4, gR_Y5, gI_Y6, gR_Y7, gR_Y8, gR_Y9, gR_Y10, gI_Y11, gI_Y12, gR_Y13, gR_Y14, gR_Y15, gR_Y16, gR_Y17, gR_Y18, gI_Y19, gI_Y20, gI_Y21, gI_Y22, gI_Y23, gR_Y24, gR_Y25, gR_Y26, gR_Y27, gR_Y28, gI_Y29, gI_Y30, gI_Y31, gR_Y33, gR_Y34, gI_Y35, gR_Y36, cV_Y, bk_some, bind_some', zb_0, zb_1, zb_or, cc_or, kset_1, kset_21, kint_1, kint_21, kint_22, putY_moved, h3, h4, h5, nI_ne0 (show 0 < j by omega) hj, gA_Y64 w κ Y hd, hsz, he, hl, hrd, if_true, if_false, not_true_eq_false, not_false_eq_true, Bool.false_eq_true, Bool.true_eq_false, reduceIte, ite_true, ite_false]
theorem readY (w : aW) (κ : aK) {σ : Nat → aS} {d N : Nat} (hT : Txt σ d N) : ∀ (f j : Nat) (Y : aY) (n : Nat), j + f = 60 → f + 1 < n → (j = 0 ∨ stP (σ d) j < N) → Cp σ Y → Y.1 2 = nI d → Y.1 5 = nI j → St Y (stP (σ d) j) none → Red (σ d) Y j → (∀ q, scanK (σ d) N f j = .inl q → ∃ Y', RT Y Y' ∧ loop1 (c_X4_mountain_57 50 (nI d)) n (putY w κ Y) = some (-1000 - nI q, putY w κ Y')) ∧ (∀ M, scanK (σ d) N f j = .inr M → ∃ Y', RT Y Y' ∧ Y'.1 5 = nI M ∧ Y'.1 4 = 0 ∧ Red (σ d) Y' M ∧ loop1 (c_X4_mountain_57 50 (nI d)) n (putY w κ Y) = c_X4_mountain_91 50 (nI d) (putY w κ Y'))
  | 0, j, Y, n, hj, _, hs, _, _, _, _, _ => by
    have := stP_ge (σ d) j
    have := hT.2.1
    omega
  | f + 1, j, Y, n + 2, hj, hn, hs, hC, hr, h5, hS, hR => by
    have hN := hT.2.1
    have hge := stP_ge (σ d) j
    have hp : stP (σ d) j < 100 ∨ stP (σ d) j = 0 := by
      rcases hs with h | h
      · subst h; exact Or.inr rfl
      · omega
    have hj50 : j < 51 := by omega
    obtain ⟨Y1, a1, a2, a3, a4, a5⟩ := m_readSt w κ hT (k := j) (p := stP (σ d) j) (by omega) hj50 hC hr h5 hS
    have hgo := fun k => read_go w κ k hT hC (show stP (σ d) j < 2 ^ 31 by omega) h5 (by omega) hS hs a1
    have hr1 : Y1.1 2 = nI d := (a2.1 2 (by decide) (by decide) (by decide)).trans hr
    rw [loop1_s, hgo]
    unfold scanK
    cases hb : badIn (σ d) (stP (σ d) j) with
    | some q =>
      rw [hb] at a4
      refine ⟨fun q' h => ⟨Y1, a2.rt, ?_⟩, fun M h => (by cases h)⟩
      have h : (Sum.inl q : Nat ⊕ Nat) = .inl q' := h
      have e : q = q' := by injection h
      subst e
      rw [loop1_s, read_bad w κ _ _ a4]
    | none =>
      rw [hb] at a4
      have a5 := a5 hb
      have hR1 := red_more hR a2 a5
      have hC1 := hC.rt a2.rt
      have hD := dig_le (atN (σ d) (stP (σ d) j))
      have hst : stP (σ d) (j + 1) = stP (σ d) j + 2 + digN (atN (σ d) (stP (σ d) j)) := rfl
      rw [← hst] at a4
      show (∀ q, (if stP (σ d) (j + 1) < N then scanK (σ d) N f (j + 1) else .inr (j + 1)) = .inl q → _) ∧ (∀ M, (if stP (σ d) (j + 1) < N then scanK (σ d) N f (j + 1) else .inr (j + 1)) = .inr M → _)
      by_cases hlt : stP (σ d) (j + 1) < N
      · rw [if_pos hlt]
        obtain ⟨i1, i2⟩ := readY w κ hT f (j + 1) Y1 (n + 1) (by omega) (by omega) (Or.inr hlt) hC1 hr1 a3 a4 hR1
        refine ⟨fun q h => ?_, fun M h => ?_⟩
        · obtain ⟨Y', t1, t2⟩ := i1 q h
          exact ⟨Y', a2.rt.trans t1, t2⟩
        · obtain ⟨Y', t1, t2, t3, t4, t5⟩ := i2 M h
          exact ⟨Y', a2.rt.trans t1, t2, t3, t4, t5⟩
      · rw [if_neg hlt]
        refine ⟨fun q h => (by cases h), fun M h => ⟨Y1, a2.rt, ?_, a4.2, ?_, ?_⟩⟩
        · have e : j + 1 = M := by injection h
          rw [← e]; exact a3
        · have e : j + 1 = M := by injection h
          rw [← e]; exact hR1
        · rw [loop1_s, read_fin w κ _ hT hC1 (show stP (σ d) (j + 1) < 2 ^ 31 by omega) a3 (by omega) a4 (by omega)]
