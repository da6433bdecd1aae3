/-! PURE: shelves at both sides: keep, row, put, element, cost, toss -/
def ShY (ν : aS) (y : aY) (d : Nat) : Prop := y.2.1 0 d = ν.1 0 ∧ (ν.1 0 = 1 → y.2.1 1 d = ν.1 1 ∧ y.2.1 2 d = ν.1 2) ∧ (ν.1 0 = 2 → y.2.1 3 d = ν.1 3 ∧ y.2.1 4 d = ν.1 4 ∧ ∀ i, i < 100 → y.2.2.2.1 (100 * d + i) = (ν.2 i).toInt64)
def Cp (σ : Nat → aS) (y : aY) : Prop := ∀ d, d < 8 → WFs (σ d) ∧ ShY (σ d) y d
theorem Cp.of {σ : Nat → aS} {y y' : aY} (h : Cp σ y) (e1 : ∀ k, k < 5 → y'.2.1 k = y.2.1 k) (e2 : y'.2.2.2.1 = y.2.2.2.1) : Cp σ y' := by
  intro d hd
  refine ⟨(h d hd).1, ?_⟩
  have h2 := (h d hd).2
  unfold ShY at h2 ⊢
  rw [e1 0 (by decide), e1 1 (by decide), e1 2 (by decide), e1 3 (by decide), e1 4 (by decide), e2]
  exact h2
theorem Cp.yk {σ : Nat → aS} {y y' : aY} (h : Cp σ y) (e : Yk y y') : Cp σ y' := h.of e.1.2.2.1 e.1.2.2.2
theorem Cp.thr {σ : Nat → aS} {y : aY} (h : Cp σ y) (x : Int32) : Cp σ (yint y 1 x) := h.yk (Yk.thrown y x)
/-- what a change of the shelves keeps of the model's -/
def Yim (y y' : aY) : Prop := y'.1 0 = y.1 0 ∧ y'.1 6 = y.1 6 ∧ y'.2.1 9 = y.2.1 9
theorem Yim.refl (y : aY) : Yim y y := ⟨rfl, rfl, rfl⟩
theorem Yk.im {y y' : aY} (h : Yk y y') : Yim y y' := ⟨h.1.1, h.1.2.1, h.2⟩
theorem Yim.trans {a b c : aY} (h1 : Yim a b) (h2 : Yim b c) : Yim a c := ⟨h2.1.trans h1.1, h2.2.1.trans h1.2.1, h2.2.2.trans h1.2.2⟩
theorem Yim.thr (y : aY) (x : Int32) : Yim y (yint y 1 x) := (Yk.thrown y x).im
def refR (σ : Nat → aS) (x : Int32) : Int32 := if inR x 0 7 = true then rowR (σ (ix x)) else -1
def refB (σ : Nat → aS) (x : Int32) : Int32 := if inR x 0 7 = true then beaR (σ (ix x)) else -1
theorem ix7 {d : Nat} (hd : d < 8) : ix (nI d) = d := ix_nI (by omega)
theorem inR7 {d : Nat} (hd : d < 8) : inR (nI d) 0 7 = true := inR_of (n := 7) (by omega) (by decide)
theorem m_wrongRow (w : aW) (κ : aK) {y : aY} {σ : Nat → aS} (hC : Cp σ y) (x : Int32) : f_X4_wrongRow 50 x (putY w κ y) = some (refR σ x, putY w κ y) := by
  unfold f_X4_wrongRow refR
  by_cases h : inR x 0 7 = true
  · obtain ⟨d, hd, rfl⟩ := in7 h
    have h0 := (hC d hd).2.1
    simp only [p_in32 (x := nI d) (a := 0) (b := 7) (a' := 0) (b' := 7) rfl rfl, h, gI_Y0, gR_Y1, gR_Y2, gR_Y3, gR_Y4, gR_Y5, gI_Y6, gR_Y7, gR_Y8, gR_Y9, gR_Y10, gI_Y11, gI_Y12, gR_Y13, gR_Y14, gR_Y15, gR_Y16, gR_Y17, gR_Y18, gI_Y19, gI_Y20, gI_Y21, gI_Y22, gI_Y23, gR_Y24, gR_Y25, gR_Y26, gR_Y27, gR_Y28, gI_Y29, gI_Y30, gI_Y31, gR_Y33, gR_Y34, gI_Y35, gR_Y36, cV_Y, bk_some, bind_some', zb_0, zb_1, zb_or, cc_or, kset_1, kset_21, kint_1, kint_21, kint_22, putY_moved, gA_Y60 w κ y hd, h0, ix7 hd, rowR, if_true, if_false, not_true_eq_false, not_false_eq_true, Bool.false_eq_true, Bool.true_eq_false, reduceIte, ite_true, ite_false]
    by_cases h1 : (σ d).1 0 = 0
    · simp [h1]
    · by_cases h2 : (σ d).1 0 = 2 <;> simp [h1, h2]
  · have h := Bool.eq_false_iff.mpr h
    simp only [p_in32 (x := x) (a := 0) (b := 7) (a' := 0) (b' := 7) rfl rfl, h, gI_Y0, gR_Y1, gR_Y2, gR_Y3, gR_Y4, gR_Y5, gI_Y6, gR_Y7, gR_Y8, gR_Y9, gR_Y10, gI_Y11, gI_Y12, gR_Y13, gR_Y14, gR_Y15, gR_Y16, gR_Y17, gR_Y18, gI_Y19, gI_Y20, gI_Y21, gI_Y22, gI_Y23, gR_Y24, gR_Y25, gR_Y26, gR_Y27, gR_Y28, gI_Y29, gI_Y30, gI_Y31, gR_Y33, gR_Y34, gI_Y35, gR_Y36, cV_Y, bk_some, bind_some', zb_0, zb_1, zb_or, cc_or, kset_1, kset_21, kint_1, kint_21, kint_22, putY_moved, if_true, if_false, not_true_eq_false, not_false_eq_true, Bool.false_eq_true, Bool.true_eq_false, reduceIte, ite_true, ite_false]
theorem m_wrongKept (w : aW) (κ : aK) {y : aY} {σ : Nat → aS} (hC : Cp σ y) (x : Int32) : f_X4_wrongKept 50 x (putY w κ y) = some (refB σ x, putY w κ y) := by
  unfold f_X4_wrongKept refB
  by_cases h : inR x 0 7 = true
  · obtain ⟨d, hd, rfl⟩ := in7 h
    have h0 := (hC d hd).2.1
    simp only [p_in32 (x := nI d) (a := 0) (b := 7) (a' := 0) (b' := 7) rfl rfl, h, gI_Y0, gR_Y1, gR_Y2, gR_Y3, gR_Y4, gR_Y5, gI_Y6, gR_Y7, gR_Y8, gR_Y9, gR_Y10, gI_Y11, gI_Y12, gR_Y13, gR_Y14, gR_Y15, gR_Y16, gR_Y17, gR_Y18, gI_Y19, gI_Y20, gI_Y21, gI_Y22, gI_Y23, gR_Y24, gR_Y25, gR_Y26, gR_Y27, gR_Y28, gI_Y29, gI_Y30, gI_Y31, gR_Y33, gR_Y34, gI_Y35, gR_Y36, cV_Y, bk_some, bind_some', zb_0, zb_1, zb_or, cc_or, kset_1, kset_21, kint_1, kint_21, kint_22, putY_moved, gA_Y60 w κ y hd, h0, ix7 hd, beaR, if_true, if_false, not_true_eq_false, not_false_eq_true, Bool.false_eq_true, Bool.true_eq_false, reduceIte, ite_true, ite_false]
    rcases (hC d hd).1.1 with h1 | h1 | h1
    · simp [h1]
    · simp [h1]
    · simp [h1]
  · have h := Bool.eq_false_iff.mpr h
    simp only [p_in32 (x := x) (a := 0) (b := 7) (a' := 0) (b' := 7) rfl rfl, h, gI_Y0, gR_Y1, gR_Y2, gR_Y3, gR_Y4, gR_Y5, gI_Y6, gR_Y7, gR_Y8, gR_Y9, gR_Y10, gI_Y11, gI_Y12, gR_Y13, gR_Y14, gR_Y15, gR_Y16, gR_Y17, gR_Y18, gI_Y19, gI_Y20, gI_Y21, gI_Y22, gI_Y23, gR_Y24, gR_Y25, gR_Y26, gR_Y27, gR_Y28, gI_Y29, gI_Y30, gI_Y31, gR_Y33, gR_Y34, gI_Y35, gR_Y36, cV_Y, bk_some, bind_some', zb_0, zb_1, zb_or, cc_or, kset_1, kset_21, kint_1, kint_21, kint_22, putY_moved, if_true, if_false, not_true_eq_false, not_false_eq_true, Bool.false_eq_true, Bool.true_eq_false, reduceIte, ite_true, ite_false]
theorem rowR_2 {ν : aS} (h : rowR ν = 0) : ν.1 0 = 2 := by
  unfold rowR at h
  by_cases h1 : ν.1 0 = 0
  · simp [h1] at h
  · by_cases h2 : ν.1 0 = 2
    · exact h2
    · simp [h1, h2] at h
theorem rowR_neg {ν : aS} (h : ¬ rowR ν = 0) : rowR ν < 0 := by
  unfold rowR at h ⊢
  by_cases h1 : ν.1 0 = 0
  · simp only [h1, if_true, if_false, not_true_eq_false, not_false_eq_true, Bool.false_eq_true, Bool.true_eq_false, reduceIte, ite_true, ite_false]; decide
  · by_cases h2 : ν.1 0 = 2
    · simp [h2] at h
    · simp only [h1, h2, if_true, if_false, not_true_eq_false, not_false_eq_true, Bool.false_eq_true, Bool.true_eq_false, reduceIte, ite_true, ite_false]; decide
theorem beaR_1 {ν : aS} (h : beaR ν = 0) : ν.1 0 = 1 := by
  unfold beaR at h
  by_cases h1 : ν.1 0 = 0
  · simp [h1] at h
  · by_cases h2 : ν.1 0 = 1
    · exact h2
    · simp [h1, h2] at h
theorem beaR_neg {ν : aS} (h : ¬ beaR ν = 0) : beaR ν < 0 := by
  unfold beaR at h ⊢
  by_cases h1 : ν.1 0 = 0
  · simp only [h1, if_true, if_false, not_true_eq_false, not_false_eq_true, Bool.false_eq_true, Bool.true_eq_false, reduceIte, ite_true, ite_false]; decide
  · by_cases h2 : ν.1 0 = 1
    · simp [h2] at h
    · simp only [h1, h2, if_true, if_false, not_true_eq_false, not_false_eq_true, Bool.false_eq_true, Bool.true_eq_false, reduceIte, ite_true, ite_false]; decide
theorem nle0 {x : Int32} (h : x < 0) : ¬ (0 : Int32) ≤ x := Int32.not_le.mpr h
def xsig (X : aX) (σ : Nat → aS) : aX := (X.1, X.2.1, X.2.2.1, X.2.2.2.1, σ, X.2.2.2.2.2)
theorem xsig_self (X : aX) : xsig X X.2.2.2.2.1 = X := rfl
def sig (σ : Nat → aS) (d : Nat) (ν : aS) : Nat → aS := fun d' => if d' = d then ν else σ d'
theorem xsh_sig (X : aX) (d : Nat) (ν : aS) : xsh X d ν = xsig X (sig X.2.2.2.2.1 d ν) := rfl
/-- one shelf becomes another -/
theorem Cp.put {σ : Nat → aS} {y y' : aY} {d : Nat} {ν : aS} (h : Cp σ y) (hd : d < 8) (hν : WFs ν) (hs : ShY ν y' d) (h1 : ∀ k, k < 5 → ∀ d', d' ≠ d → y'.2.1 k d' = y.2.1 k d') (h2 : ∀ d', d' < 8 → d' ≠ d → ∀ i, i < 100 → y'.2.2.2.1 (100 * d' + i) = y.2.2.2.1 (100 * d' + i)) : Cp (sig σ d ν) y' := by
  intro d' hd'
  by_cases e : d' = d
  · subst e
    have : sig σ d' ν d' = ν := if_pos rfl
    rw [this]
    exact ⟨hν, hs⟩
  · have : sig σ d ν d' = σ d' := if_neg e
    rw [this]
    refine ⟨(h d' hd').1, ?_⟩
    have hh := (h d' hd').2
    unfold ShY at hh ⊢
    rw [h1 0 (by decide) d' e, h1 1 (by decide) d' e, h1 2 (by decide) d' e, h1 3 (by decide) d' e, h1 4 (by decide) d' e]
    refine ⟨hh.1, hh.2.1, fun h3 => ⟨(hh.2.2 h3).1, (hh.2.2 h3).2.1, fun i hi => ?_⟩⟩
    rw [h2 d' hd' e i hi]
    exact (hh.2.2 h3).2.2 i hi
theorem yset_oth (y : aY) (k i : Nat) (x : Int32) {k' i' : Nat} (h : i' ≠ i) : (yset y k i x).2.1 k' i' = y.2.1 k' i' := by
  rw [yset_21, if_neg (fun z => h z.2)]
theorem yset_at (y : aY) (k i : Nat) (x : Int32) : (yset y k i x).2.1 k i = x := by rw [yset_21, if_pos ⟨rfl, rfl⟩]
theorem yset_k (y : aY) {k k' : Nat} (i : Nat) (x : Int32) {i' : Nat} (h : k' ≠ k) : (yset y k i x).2.1 k' i' = y.2.1 k' i' := by rw [yset_21, if_neg (fun z => h z.1)]
theorem yrow_self {y : aY} {f : Nat → Int64} (h : ∀ z, f z = y.2.2.2.1 z) : yrow y f = y := by
  unfold yrow
  rw [show f = y.2.2.2.1 from funext h]
theorem yset_r (y : aY) (k i : Nat) (x : Int32) : (yset y k i x).2.2.2.1 = y.2.2.2.1 := rfl
/-! keep -/
def emptyS (ν : aS) : aS := sset (sset ν 0 0) 4 0
def beastS (ν : aS) (k f : Int32) : aS := sset (sset (sset (sset ν 0 1) 4 0) 1 k) 2 f
def keepS (x a k f : Int32) (σ : Nat → aS) : Int32 × (Nat → aS) := if inR x 0 7 = true then (if inR a 0 1 = true then (if a = 0 then (0, sig σ (ix x) (emptyS (σ (ix x)))) else (if inR k 0 7 = true then (if inR f 0 9 = true then (0, sig σ (ix x) (beastS (σ (ix x)) k f)) else (-1, σ)) else (-1, σ))) else (-1, σ)) else (-1, σ)
theorem x_keep (w : aW) (X : aX) (x a k f : Int32) : f_X3_keep 0 x a k f (putX w X) = some ((keepS x a k f X.2.2.2.2.1).1, putX w (xsig X (keepS x a k f X.2.2.2.2.1).2)) := by
  unfold f_X3_keep keepS
  by_cases h1 : inR x 0 7 = true
  · obtain ⟨d, hd, rfl⟩ := in7 h1
    by_cases h2 : inR a 0 1 = true
    · by_cases h3 : a = 0
      · subst h3
        simp only [h1, h2, gR_X0, gR_X1, gR_X2, gI_X3, gR_X4, gR_X5, gR_X6, cV_X, x_think, xmind_1, xmind_0, xmind_2, xnow_0, xnow_1, xnow_2, bk_some, bind_some', zb_0, zb_1, zb_or, cc_or, x_shelfAt w X hd, oc_some, p_within, S_cV w X hd, S_becomeEmpty w X hd, ix7 hd, xsh_sig, if_true, if_false, not_true_eq_false, not_false_eq_true, Bool.false_eq_true, Bool.true_eq_false, reduceIte, ite_true, ite_false]
        rfl
      · by_cases h4 : inR k 0 7 = true
        · by_cases h5 : inR f 0 9 = true
          · simp only [h1, h2, h3, h4, h5, gR_X0, gR_X1, gR_X2, gI_X3, gR_X4, gR_X5, gR_X6, cV_X, x_think, xmind_1, xmind_0, xmind_2, xnow_0, xnow_1, xnow_2, bk_some, bind_some', zb_0, zb_1, zb_or, cc_or, x_shelfAt w X hd, oc_some, p_within, p_isSort, p_isFigure, S_cV w X hd, S_holdBeast w X hd, ix7 hd, xsh_sig, if_true, if_false, not_true_eq_false, not_false_eq_true, Bool.false_eq_true, Bool.true_eq_false, reduceIte, ite_true, ite_false]
            rfl
          · have h5 := Bool.eq_false_iff.mpr h5
            simp only [h1, h2, h3, h4, h5, gR_X0, gR_X1, gR_X2, gI_X3, gR_X4, gR_X5, gR_X6, cV_X, x_think, xmind_1, xmind_0, xmind_2, xnow_0, xnow_1, xnow_2, bk_some, bind_some', zb_0, zb_1, zb_or, cc_or, x_shelfAt w X hd, oc_some, p_within, p_isSort, p_isFigure, xsig_self, if_true, if_false, not_true_eq_false, not_false_eq_true, Bool.false_eq_true, Bool.true_eq_false, reduceIte, ite_true, ite_false]
        · have h4 := Bool.eq_false_iff.mpr h4
          simp only [h1, h2, h3, h4, gR_X0, gR_X1, gR_X2, gI_X3, gR_X4, gR_X5, gR_X6, cV_X, x_think, xmind_1, xmind_0, xmind_2, xnow_0, xnow_1, xnow_2, bk_some, bind_some', zb_0, zb_1, zb_or, cc_or, x_shelfAt w X hd, oc_some, p_within, p_isSort, p_isFigure, xsig_self, if_true, if_false, not_true_eq_false, not_false_eq_true, Bool.false_eq_true, Bool.true_eq_false, reduceIte, ite_true, ite_false]
    · have h2 := Bool.eq_false_iff.mpr h2
      simp only [h1, h2, gR_X0, gR_X1, gR_X2, gI_X3, gR_X4, gR_X5, gR_X6, cV_X, x_think, xmind_1, xmind_0, xmind_2, xnow_0, xnow_1, xnow_2, bk_some, bind_some', zb_0, zb_1, zb_or, cc_or, x_shelfAt w X hd, oc_some, p_within, xsig_self, if_true, if_false, not_true_eq_false, not_false_eq_true, Bool.false_eq_true, Bool.true_eq_false, reduceIte, ite_true, ite_false]
  · have h1 := Bool.eq_false_iff.mpr h1
    simp only [h1, gR_X0, gR_X1, gR_X2, gI_X3, gR_X4, gR_X5, gR_X6, cV_X, x_think, xmind_1, xmind_0, xmind_2, xnow_0, xnow_1, xnow_2, bk_some, bind_some', zb_0, zb_1, zb_or, cc_or, x_shelfNo w X h1, oc_none, xsig_self, if_true, if_false, not_true_eq_false, not_false_eq_true, Bool.false_eq_true, Bool.true_eq_false, reduceIte, ite_true, ite_false]
theorem a01 {a : Int32} (h : inR a 0 1 = true) (h0 : ¬ a = 0) : a = 1 := by
  obtain ⟨i, hi, rfl⟩ := inR_nI (n := 1) (by decide) h
  rcases (show i = 0 ∨ i = 1 by omega) with rfl | rfl
  · exact absurd rfl h0
  · rfl
theorem WFs.empty {ν : aS} : WFs (emptyS ν) := ⟨Or.inl rfl, ⟨0, by decide, rfl⟩, fun h => absurd h (show ¬ (0 : Int32) = 1 by decide)⟩
theorem WFs.beast {ν : aS} {k f : Nat} (hk : k ≤ 7) (hf : f ≤ 9) : WFs (beastS ν (nI k) (nI f)) := ⟨Or.inr (Or.inl rfl), ⟨0, by decide, rfl⟩, fun _ => ⟨⟨k, hk, rfl⟩, f, hf, rfl⟩⟩
def ykeep (y : aY) (d : Nat) (a k f : Int32) : aY := yset (yset (yset y 0 d a) 1 d k) 2 d f
theorem keep_oth (y : aY) (d : Nat) (a k f : Int32) : (∀ k', k' < 5 → ∀ d', d' ≠ d → (ykeep y d a k f).2.1 k' d' = y.2.1 k' d') ∧ (ykeep y d a k f).2.2.2.1 = y.2.2.2.1 := by
  refine ⟨fun k' _ d' h => ?_, rfl⟩
  unfold ykeep
  rw [yset_oth _ _ _ _ h, yset_oth _ _ _ _ h, yset_oth _ _ _ _ h]
theorem keep_im (y : aY) (d : Nat) (a k f : Int32) : Yim y (ykeep y d a k f) := ⟨rfl, rfl, rfl⟩
theorem m_keep (w : aW) (κ : aK) {Y : aY} {σ : Nat → aS} (hC : Cp σ Y) (x a k f : Int32) : ∃ Y', Yim Y Y' ∧ Cp (keepS x a k f σ).2 Y' ∧ f_X4_keep 50 x a k f (putY w κ Y) = some ((keepS x a k f σ).1, putY w κ Y') := by
  have hC' := hC.thr 0
  have hno : ∀ r : Int32, ∃ Y', Yim Y Y' ∧ Cp σ Y' ∧ some (r, putY w κ (yint Y 1 0)) = some (r, putY w κ Y') := fun r => ⟨_, Yim.thr Y 0, hC', rfl⟩
  unfold f_X4_keep keepS
  have e1 := p_in32 (x := x) (a := 0) (b := 7) (a' := 0) (b' := 7) rfl rfl
  have e2 := p_in32 (x := a) (a := 0) (b := 1) (a' := 0) (b' := 1) rfl rfl
  have e3 := p_in32 (x := k) (a := 0) (b := 7) (a' := 0) (b' := 7) rfl rfl
  have e4 := p_in32 (x := f) (a := 0) (b := 9) (a' := 0) (b' := 9) rfl rfl
  by_cases h1 : inR x 0 7 = true
  · obtain ⟨d, hd, rfl⟩ := in7 h1
    by_cases h2 : inR a 0 1 = true
    · by_cases h3 : a = 0
      · subst h3
        refine ⟨ykeep (yint Y 1 0) d 0 0 0, (Yim.thr Y 0).trans (keep_im _ d 0 0 0), ?_, ?_⟩
        · rw [if_pos h1, if_pos h2, if_pos rfl, ix7 hd]
          refine hC'.put hd WFs.empty ⟨by unfold ykeep; rw [yset_k _ _ _ (by decide), yset_k _ _ _ (by decide), yset_at]; rfl, fun h => absurd h (show ¬ (0 : Int32) = 1 by decide), fun h => absurd h (show ¬ (0 : Int32) = 2 by decide)⟩ (keep_oth _ d 0 0 0).1 (fun d' _ _ i _ => ?_)
          rw [(keep_oth _ d 0 0 0).2]
        · simp only [h1, h2, e1, e2, show ¬ (0 : Int32) = 1 by decide, c_X4_keep_59, c_X4_keep_81, sF_Y19, sA_Y60 w κ _ hd, sA_Y61 w κ _ hd, sA_Y62 w κ _ hd, gI_Y0, gR_Y1, gR_Y2, gR_Y3, gR_Y4, gR_Y5, gI_Y6, gR_Y7, gR_Y8, gR_Y9, gR_Y10, gI_Y11, gI_Y12, gR_Y13, gR_Y14, gR_Y15, gR_Y16, gR_Y17, gR_Y18, gI_Y19, gI_Y20, gI_Y21, gI_Y22, gI_Y23, gR_Y24, gR_Y25, gR_Y26, gR_Y27, gR_Y28, gI_Y29, gI_Y30, gI_Y31, gR_Y33, gR_Y34, gI_Y35, gR_Y36, cV_Y, bk_some, bind_some', zb_0, zb_1, zb_or, cc_or, kset_1, kset_21, kint_1, kint_21, kint_22, putY_moved, if_true, if_false, not_true_eq_false, not_false_eq_true, Bool.false_eq_true, Bool.true_eq_false, reduceIte, ite_true, ite_false]
          rfl
      · have ha := a01 h2 h3
        subst ha
        by_cases h4 : inR k 0 7 = true
        · by_cases h5 : inR f 0 9 = true
          · obtain ⟨k', hk', rfl⟩ := in7 h4
            obtain ⟨f', hf', rfl⟩ := inR_nI (n := 9) (by decide) h5
            refine ⟨ykeep (yint Y 1 0) d 1 (nI k') (nI f'), (Yim.thr Y 0).trans (keep_im _ d 1 _ _), ?_, ?_⟩
            · rw [if_pos h1, if_pos h2, if_neg h3, if_pos h4, if_pos h5, ix7 hd]
              have z1 : (ykeep (yint Y 1 0) d 1 (nI k') (nI f')).2.1 0 d = 1 := by unfold ykeep; rw [yset_k _ _ _ (by decide), yset_k _ _ _ (by decide), yset_at]
              have z2 : (ykeep (yint Y 1 0) d 1 (nI k') (nI f')).2.1 1 d = nI k' := by unfold ykeep; rw [yset_k _ _ _ (by decide), yset_at]
              have z3 : (ykeep (yint Y 1 0) d 1 (nI k') (nI f')).2.1 2 d = nI f' := by unfold ykeep; rw [yset_at]
              refine hC'.put hd (WFs.beast (by omega) hf') ⟨z1, fun _ => ⟨z2, z3⟩, fun h => absurd h (show ¬ (1 : Int32) = 2 by decide)⟩ (keep_oth _ d 1 _ _).1 (fun d' _ _ i _ => ?_)
              rw [(keep_oth _ d 1 _ _).2]
            · simp only [h1, h2, h3, h4, h5, e1, e2, e3, e4, c_X4_keep_59, c_X4_keep_81, sF_Y19, sA_Y60 w κ _ hd, sA_Y61 w κ _ hd, sA_Y62 w κ _ hd, gI_Y0, gR_Y1, gR_Y2, gR_Y3, gR_Y4, gR_Y5, gI_Y6, gR_Y7, gR_Y8, gR_Y9, gR_Y10, gI_Y11, gI_Y12, gR_Y13, gR_Y14, gR_Y15, gR_Y16, gR_Y17, gR_Y18, gI_Y19, gI_Y20, gI_Y21, gI_Y22, gI_Y23, gR_Y24, gR_Y25, gR_Y26, gR_Y27, gR_Y28, gI_Y29, gI_Y30, gI_Y31, gR_Y33, gR_Y34, gI_Y35, gR_Y36, cV_Y, bk_some, bind_some', zb_0, zb_1, zb_or, cc_or, kset_1, kset_21, kint_1, kint_21, kint_22, putY_moved, if_true, if_false, not_true_eq_false, not_false_eq_true, Bool.false_eq_true, Bool.true_eq_false, reduceIte, ite_true, ite_false]
              rfl
          · have h5 := Bool.eq_false_iff.mpr h5
            simp only [h1, h2, h3, h4, h5, e1, e2, e3, e4, sF_Y19, gI_Y0, gR_Y1, gR_Y2, gR_Y3, gR_Y4, gR_Y5, gI_Y6, gR_Y7, gR_Y8, gR_Y9, gR_Y10, gI_Y11, gI_Y12, gR_Y13, gR_Y14, gR_Y15, gR_Y16, gR_Y17, gR_Y18, gI_Y19, gI_Y20, gI_Y21, gI_Y22, gI_Y23, gR_Y24, gR_Y25, gR_Y26, gR_Y27, gR_Y28, gI_Y29, gI_Y30, gI_Y31, gR_Y33, gR_Y34, gI_Y35, gR_Y36, cV_Y, bk_some, bind_some', zb_0, zb_1, zb_or, cc_or, kset_1, kset_21, kint_1, kint_21, kint_22, putY_moved, if_true, if_false, not_true_eq_false, not_false_eq_true, Bool.false_eq_true, Bool.true_eq_false, reduceIte, ite_true, ite_false]
            exact hno _
        · have h4 := Bool.eq_false_iff.mpr h4
          simp only [h1, h2, h3, h4, e1, e2, e3, sF_Y19, gI_Y0, gR_Y1, gR_Y2, gR_Y3, gR_Y4, gR_Y5, gI_Y6, gR_Y7, gR_Y8, gR_Y9, gR_Y10, gI_Y11, gI_Y12, gR_Y13, gR_Y14, gR_Y15, gR_Y16, gR_Y17, gR_Y18, gI_Y19, gI_Y20, gI_Y21, gI_Y22, gI_Y23, gR_Y24, gR_Y25, gR_Y26, gR_Y27, gR_Y28, gI_Y29, gI_Y30, gI_Y31, gR_Y33, gR_Y34, gI_Y35, gR_Y36, cV_Y, bk_some, bind_some', zb_0, zb_1, zb_or, cc_or, kset_1, kset_21, kint_1, kint_21, kint_22, putY_moved, if_true, if_false, not_true_eq_false, not_false_eq_true, Bool.false_eq_true, Bool.true_eq_false, reduceIte, ite_true, ite_false]
          exact hno _
    · have h2 := Bool.eq_false_iff.mpr h2
      simp only [h1, h2, e1, e2, sF_Y19, gI_Y0, gR_Y1, gR_Y2, gR_Y3, gR_Y4, gR_Y5, gI_Y6, gR_Y7, gR_Y8, gR_Y9, gR_Y10, gI_Y11, gI_Y12, gR_Y13, gR_Y14, gR_Y15, gR_Y16, gR_Y17, gR_Y18, gI_Y19, gI_Y20, gI_Y21, gI_Y22, gI_Y23, gR_Y24, gR_Y25, gR_Y26, gR_Y27, gR_Y28, gI_Y29, gI_Y30, gI_Y31, gR_Y33, gR_Y34, gI_Y35, gR_Y36, cV_Y, bk_some, bind_some', zb_0, zb_1, zb_or, cc_or, kset_1, kset_21, kint_1, kint_21, kint_22, putY_moved, if_true, if_false, not_true_eq_false, not_false_eq_true, Bool.false_eq_true, Bool.true_eq_false, reduceIte, ite_true, ite_false]
      exact hno _
  · have h1 := Bool.eq_false_iff.mpr h1
    simp only [h1, e1, sF_Y19, gI_Y0, gR_Y1, gR_Y2, gR_Y3, gR_Y4, gR_Y5, gI_Y6, gR_Y7, gR_Y8, gR_Y9, gR_Y10, gI_Y11, gI_Y12, gR_Y13, gR_Y14, gR_Y15, gR_Y16, gR_Y17, gR_Y18, gI_Y19, gI_Y20, gI_Y21, gI_Y22, gI_Y23, gR_Y24, gR_Y25, gR_Y26, gR_Y27, gR_Y28, gI_Y29, gI_Y30, gI_Y31, gR_Y33, gR_Y34, gI_Y35, gR_Y36, cV_Y, bk_some, bind_some', zb_0, zb_1, zb_or, cc_or, kset_1, kset_21, kint_1, kint_21, kint_22, putY_moved, if_true, if_false, not_true_eq_false, not_false_eq_true, Bool.false_eq_true, Bool.true_eq_false, reduceIte, ite_true, ite_false]
    exact hno _
/-! row -/
def rowOp (x k n : Int32) (σ : Nat → aS) : Int32 × (Nat → aS) := if inR x 0 7 = true then (if inR k 0 2 = true then (if n ≤ 100 then (if 0 ≤ n then (0, sig σ (ix x) (rowS (σ (ix x)) k (ix n))) else (-14, σ)) else (-1, σ)) else (-1, σ)) else (-1, σ)
theorem in100 {n : Int32} (h1 : n ≤ 100) (h2 : 0 ≤ n) : ∃ m, m ≤ 100 ∧ n = nI m := by
  refine inR_nI (n := 100) (by decide) ?_
  unfold inR
  rw [decide_eq_true h2, decide_eq_true (show n ≤ nI 100 from h1)]
  rfl
theorem x_row (w : aW) (X : aX) (x k n : Int32) : f_X3_row 0 x k n (putX w X) = some ((rowOp x k n X.2.2.2.2.1).1, putX w (xsig X (rowOp x k n X.2.2.2.2.1).2)) := by
  unfold f_X3_row rowOp
  by_cases h1 : inR x 0 7 = true
  · obtain ⟨d, hd, rfl⟩ := in7 h1
    by_cases h2 : inR k 0 2 = true
    · by_cases h3 : n ≤ 100
      · by_cases h4 : 0 ≤ n
        · obtain ⟨m, hm, rfl⟩ := in100 h3 h4
          simp only [h1, h2, h3, h4, gR_X0, gR_X1, gR_X2, gI_X3, gR_X4, gR_X5, gR_X6, cV_X, x_think, xmind_1, xmind_0, xmind_2, xnow_0, xnow_1, xnow_2, bk_some, bind_some', zb_0, zb_1, zb_or, cc_or, x_shelfAt w X hd, oc_some, p_within, S_cV w X hd, S_holdRow w X hd k hm, ix7 hd, ix_nI (show m < 2 ^ 31 by omega), xsh_sig, if_true, if_false, not_true_eq_false, not_false_eq_true, Bool.false_eq_true, Bool.true_eq_false, reduceIte, ite_true, ite_false]
        · simp only [h1, h2, h3, h4, gR_X0, gR_X1, gR_X2, gI_X3, gR_X4, gR_X5, gR_X6, cV_X, x_think, xmind_1, xmind_0, xmind_2, xnow_0, xnow_1, xnow_2, bk_some, bind_some', zb_0, zb_1, zb_or, cc_or, x_shelfAt w X hd, oc_some, p_within, xsig_self, if_true, if_false, not_true_eq_false, not_false_eq_true, Bool.false_eq_true, Bool.true_eq_false, reduceIte, ite_true, ite_false]
      · simp only [h1, h2, h3, gR_X0, gR_X1, gR_X2, gI_X3, gR_X4, gR_X5, gR_X6, cV_X, x_think, xmind_1, xmind_0, xmind_2, xnow_0, xnow_1, xnow_2, bk_some, bind_some', zb_0, zb_1, zb_or, cc_or, x_shelfAt w X hd, oc_some, p_within, xsig_self, if_true, if_false, not_true_eq_false, not_false_eq_true, Bool.false_eq_true, Bool.true_eq_false, reduceIte, ite_true, ite_false]
    · have h2 := Bool.eq_false_iff.mpr h2
      simp only [h1, h2, gR_X0, gR_X1, gR_X2, gI_X3, gR_X4, gR_X5, gR_X6, cV_X, x_think, xmind_1, xmind_0, xmind_2, xnow_0, xnow_1, xnow_2, bk_some, bind_some', zb_0, zb_1, zb_or, cc_or, x_shelfAt w X hd, oc_some, p_within, xsig_self, if_true, if_false, not_true_eq_false, not_false_eq_true, Bool.false_eq_true, Bool.true_eq_false, reduceIte, ite_true, ite_false]
  · have h1 := Bool.eq_false_iff.mpr h1
    simp only [h1, gR_X0, gR_X1, gR_X2, gI_X3, gR_X4, gR_X5, gR_X6, cV_X, x_think, xmind_1, xmind_0, xmind_2, xnow_0, xnow_1, xnow_2, bk_some, bind_some', zb_0, zb_1, zb_or, cc_or, x_shelfNo w X h1, oc_none, xsig_self, if_true, if_false, not_true_eq_false, not_false_eq_true, Bool.false_eq_true, Bool.true_eq_false, reduceIte, ite_true, ite_false]
theorem h100 : ∀ d, d < 8 → (100 : Int32) * nI d = nI (100 * d) := by decide
theorem ge_100 : (100 : Int32) ≤ nI 100 := by decide
theorem lt_100 {i : Nat} (h : i < 100) : ¬ (100 : Int32) ≤ nI i := nI_ge h (by decide)
def yzero (y : aY) (d i : Nat) : aY := yrow y (fun z => if 100 * d + i ≤ z ∧ z < 100 * d + 100 then 0 else y.2.2.2.1 z)
theorem m_rowLoop (w : aW) (κ : aK) {d : Nat} (hd : d < 8) (k n : Int32) : ∀ (m i : Nat) (y : aY) (f : Nat), i + m = 100 → m < f → loop2 (c_X4_row_68 50 (nI d) k n) f (nI i) (putY w κ y) = some (0, putY w κ (yzero y d i))
  | 0, i, y, f + 1, hm, _ => by
    have : i = 100 := by omega
    subst this
    show c_X4_row_68 50 (nI d) k n (loop2 (c_X4_row_68 50 (nI d) k n) f) (nI 100) (putY w κ y) = _
    simp only [c_X4_row_68, ge_100, if_true, if_false, not_true_eq_false, not_false_eq_true, Bool.false_eq_true, Bool.true_eq_false, reduceIte, ite_true, ite_false]
    rw [show yzero y d 100 = y from yrow_self (fun z => if_neg (by omega))]
  | m + 1, i, y, f + 1, hm, hf => by
    show c_X4_row_68 50 (nI d) k n (loop2 (c_X4_row_68 50 (nI d) k n) f) (nI i) (putY w κ y) = _
    have e := m_rowLoop w κ hd k n m (i + 1) (yrow y (vp_updL y.2.2.2.1 (100 * d + i) 0)) f (by omega) (by omega)
    simp only [c_X4_row_68, lt_100 (show i < 100 by omega), h100 d hd, nI_add, gI_Y0, gR_Y1, gR_Y2, gR_Y3, gR_Y4, gR_Y5, gI_Y6, gR_Y7, gR_Y8, gR_Y9, gR_Y10, gI_Y11, gI_Y12, gR_Y13, gR_Y14, gR_Y15, gR_Y16, gR_Y17, gR_Y18, gI_Y19, gI_Y20, gI_Y21, gI_Y22, gI_Y23, gR_Y24, gR_Y25, gR_Y26, gR_Y27, gR_Y28, gI_Y29, gI_Y30, gI_Y31, gR_Y33, gR_Y34, gI_Y35, gR_Y36, cV_Y, bk_some, bind_some', zb_0, zb_1, zb_or, cc_or, kset_1, kset_21, kint_1, kint_21, kint_22, putY_moved, sL_Y65 w κ y (show 100 * d + i < 800 by omega), nI_1, if_true, if_false, not_true_eq_false, not_false_eq_true, Bool.false_eq_true, Bool.true_eq_false, reduceIte, ite_true, ite_false]
    refine Eq.trans e (congrArg (fun f => some ((0 : Int32), putY w κ (yrow y f))) (funext fun z => ?_))
    show (if 100 * d + (i + 1) ≤ z ∧ z < 100 * d + 100 then 0 else vp_updL y.2.2.2.1 (100 * d + i) 0 z) = _
    unfold vp_updL
    by_cases h : z = 100 * d + i
    · subst h
      rw [if_neg (by omega), if_pos rfl, if_pos (by omega)]
    · by_cases h2 : 100 * d + (i + 1) ≤ z ∧ z < 100 * d + 100
      · rw [if_pos h2, if_pos (by omega)]
      · rw [if_neg h2, if_neg h, if_neg (by omega)]
def yrowd (y : aY) (d : Nat) (k n : Int32) : aY := yset (yset (yset y 0 d 2) 3 d k) 4 d n
theorem rowd_oth (y : aY) (d : Nat) (k n : Int32) : ∀ k', k' < 5 → ∀ d', d' ≠ d → (yzero (yrowd y d k n) d 0).2.1 k' d' = y.2.1 k' d' := by
  intro k' _ d' h
  show (yrowd y d k n).2.1 k' d' = _
  unfold yrowd
  rw [yset_oth _ _ _ _ h, yset_oth _ _ _ _ h, yset_oth _ _ _ _ h]
theorem WFs.row {ν : aS} (k : Int32) {n : Nat} (hn : n ≤ 100) : WFs (rowS ν k n) := ⟨Or.inr (Or.inr rfl), ⟨n, hn, rfl⟩, fun h => absurd h (show ¬ (2 : Int32) = 1 by decide)⟩
theorem m_row (w : aW) (κ : aK) {Y : aY} {σ : Nat → aS} (hC : Cp σ Y) (x k n : Int32) : ∃ Y', Yim Y Y' ∧ Cp (rowOp x k n σ).2 Y' ∧ f_X4_row 50 x k n (putY w κ Y) = some ((rowOp x k n σ).1, putY w κ Y') := by
  have hC' := hC.thr 0
  have hno : ∀ r : Int32, ∃ Y', Yim Y Y' ∧ Cp σ Y' ∧ some (r, putY w κ (yint Y 1 0)) = some (r, putY w κ Y') := fun r => ⟨_, Yim.thr Y 0, hC', rfl⟩
  unfold f_X4_row rowOp
  have e1 := p_in32 (x := x) (a := 0) (b := 7) (a' := 0) (b' := 7) rfl rfl
  have e2 := p_in32 (x := k) (a := 0) (b := 2) (a' := 0) (b' := 2) rfl rfl
  by_cases h1 : inR x 0 7 = true
  · obtain ⟨d, hd, rfl⟩ := in7 h1
    by_cases h2 : inR k 0 2 = true
    · by_cases h3 : n ≤ 100
      · by_cases h4 : 0 ≤ n
        · obtain ⟨m, hm, rfl⟩ := in100 h3 h4
          refine ⟨yzero (yrowd (yint Y 1 0) d k (nI m)) d 0, (Yim.thr Y 0).trans ⟨rfl, rfl, rfl⟩, ?_, ?_⟩
          · rw [if_pos h1, if_pos h2, if_pos h3, if_pos h4, ix7 hd, ix_nI (by omega)]
            have z0 : (yrowd (yint Y 1 0) d k (nI m)).2.1 0 d = 2 := by unfold yrowd; rw [yset_k _ _ _ (by decide), yset_k _ _ _ (by decide), yset_at]
            have z3 : (yrowd (yint Y 1 0) d k (nI m)).2.1 3 d = k := by unfold yrowd; rw [yset_k _ _ _ (by decide), yset_at]
            have z4 : (yrowd (yint Y 1 0) d k (nI m)).2.1 4 d = nI m := by unfold yrowd; rw [yset_at]
            refine hC'.put hd (WFs.row k hm) ⟨z0, fun h => absurd h (show ¬ (2 : Int32) = 1 by decide), fun _ => ⟨z3, z4, fun i hi => ?_⟩⟩ (rowd_oth _ d k _) (fun d' _ hne i hi => ?_)
            · show (if 100 * d + 0 ≤ 100 * d + i ∧ 100 * d + i < 100 * d + 100 then 0 else _) = ((if i < 100 then (0 : Int32) else (σ d).2 i)).toInt64
              rw [if_pos (by omega), if_pos hi]
              rfl
            · show (if 100 * d + 0 ≤ 100 * d' + i ∧ 100 * d' + i < 100 * d + 100 then 0 else _) = _
              rw [if_neg (by omega)]
              rfl
          · have e := m_rowLoop w κ hd k (nI m) 100 0 (yrowd (yint Y 1 0) d k (nI m)) a_fuel rfl (by decide)
            simp only [h1, h2, h3, h4, e1, e2, sF_Y19, sA_Y60 w κ _ hd, sA_Y63 w κ _ hd, sA_Y64 w κ _ hd, gI_Y0, gR_Y1, gR_Y2, gR_Y3, gR_Y4, gR_Y5, gI_Y6, gR_Y7, gR_Y8, gR_Y9, gR_Y10, gI_Y11, gI_Y12, gR_Y13, gR_Y14, gR_Y15, gR_Y16, gR_Y17, gR_Y18, gI_Y19, gI_Y20, gI_Y21, gI_Y22, gI_Y23, gR_Y24, gR_Y25, gR_Y26, gR_Y27, gR_Y28, gI_Y29, gI_Y30, gI_Y31, gR_Y33, gR_Y34, gI_Y35, gR_Y36, cV_Y, bk_some, bind_some', zb_0, zb_1, zb_or, cc_or, kset_1, kset_21, kint_1, kint_21, kint_22, putY_moved, if_true, if_false, not_true_eq_false, not_false_eq_true, Bool.false_eq_true, Bool.true_eq_false, reduceIte, ite_true, ite_false]
            exact e
        · simp only [h1, h2, h3, h4, e1, e2, sF_Y19, gI_Y0, gR_Y1, gR_Y2, gR_Y3, gR_Y4, gR_Y5, gI_Y6, gR_Y7, gR_Y8, gR_Y9, gR_Y10, gI_Y11, gI_Y12, gR_Y13, gR_Y14, gR_Y15, gR_Y16, gR_Y17, gR_Y18, gI_Y19, gI_Y20, gI_Y21, gI_Y22, gI_Y23, gR_Y24, gR_Y25, gR_Y26, gR_Y27, gR_Y28, gI_Y29, gI_Y30, gI_Y31, gR_Y33, gR_Y34, gI_Y35, gR_Y36, cV_Y, bk_some, bind_some', zb_0, zb_1, zb_or, cc_or, kset_1, kset_21, kint_1, kint_21, kint_22, putY_moved, if_true, if_false, not_true_eq_false, not_false_eq_true, Bool.false_eq_true, Bool.true_eq_false, reduceIte, ite_true, ite_false]
          exact hno _
      · simp only [h1, h2, h3, e1, e2, sF_Y19, gI_Y0, gR_Y1, gR_Y2, gR_Y3, gR_Y4, gR_Y5, gI_Y6, gR_Y7, gR_Y8, gR_Y9, gR_Y10, gI_Y11, gI_Y12, gR_Y13, gR_Y14, gR_Y15, gR_Y16, gR_Y17, gR_Y18, gI_Y19, gI_Y20, gI_Y21, gI_Y22, gI_Y23, gR_Y24, gR_Y25, gR_Y26, gR_Y27, gR_Y28, gI_Y29, gI_Y30, gI_Y31, gR_Y33, gR_Y34, gI_Y35, gR_Y36, cV_Y, bk_some, bind_some', zb_0, zb_1, zb_or, cc_or, kset_1, kset_21, kint_1, kint_21, kint_22, putY_moved, if_true, if_false, not_true_eq_false, not_false_eq_true, Bool.false_eq_true, Bool.true_eq_false, reduceIte, ite_true, ite_false]
        exact hno _
    · have h2 := Bool.eq_false_iff.mpr h2
      simp only [h1, h2, e1, e2, sF_Y19, gI_Y0, gR_Y1, gR_Y2, gR_Y3, gR_Y4, gR_Y5, gI_Y6, gR_Y7, gR_Y8, gR_Y9, gR_Y10, gI_Y11, gI_Y12, gR_Y13, gR_Y14, gR_Y15, gR_Y16, gR_Y17, gR_Y18, gI_Y19, gI_Y20, gI_Y21, gI_Y22, gI_Y23, gR_Y24, gR_Y25, gR_Y26, gR_Y27, gR_Y28, gI_Y29, gI_Y30, gI_Y31, gR_Y33, gR_Y34, gI_Y35, gR_Y36, cV_Y, bk_some, bind_some', zb_0, zb_1, zb_or, cc_or, kset_1, kset_21, kint_1, kint_21, kint_22, putY_moved, if_true, if_false, not_true_eq_false, not_false_eq_true, Bool.false_eq_true, Bool.true_eq_false, reduceIte, ite_true, ite_false]
      exact hno _
  · have h1 := Bool.eq_false_iff.mpr h1
    simp only [h1, e1, sF_Y19, gI_Y0, gR_Y1, gR_Y2, gR_Y3, gR_Y4, gR_Y5, gI_Y6, gR_Y7, gR_Y8, gR_Y9, gR_Y10, gI_Y11, gI_Y12, gR_Y13, gR_Y14, gR_Y15, gR_Y16, gR_Y17, gR_Y18, gI_Y19, gI_Y20, gI_Y21, gI_Y22, gI_Y23, gR_Y24, gR_Y25, gR_Y26, gR_Y27, gR_Y28, gI_Y29, gI_Y30, gI_Y31, gR_Y33, gR_Y34, gI_Y35, gR_Y36, cV_Y, bk_some, bind_some', zb_0, zb_1, zb_or, cc_or, kset_1, kset_21, kint_1, kint_21, kint_22, putY_moved, if_true, if_false, not_true_eq_false, not_false_eq_true, Bool.false_eq_true, Bool.true_eq_false, reduceIte, ite_true, ite_false]
    exact hno _
/-! put -/
def putO (x i v : Int32) (σ : Nat → aS) : Int32 × (Nat → aS) := if inR x 0 7 = true then (if rowR (σ (ix x)) = 0 then (if inR i 0 ((σ (ix x)).1 4 - 1) = true then (0, sig σ (ix x) (sel (σ (ix x)) (upd (σ (ix x)).2 (ix i) (narI ((σ (ix x)).1 3) v)))) else (-13, σ)) else (rowR (σ (ix x)), σ)) else (-1, σ)
theorem x_put (w : aW) (X : aX) (hS : ∀ d, d < 8 → WFs (X.2.2.2.2.1 d)) (x i v : Int32) : f_X3_put 0 x i v (putX w X) = some ((putO x i v X.2.2.2.2.1).1, putX w (xsig X (putO x i v X.2.2.2.2.1).2)) := by
  unfold f_X3_put putO
  by_cases h1 : inR x 0 7 = true
  · obtain ⟨d, hd, rfl⟩ := in7 h1
    by_cases h2 : rowR (X.2.2.2.2.1 d) = 0
    · by_cases h3 : inR i 0 ((X.2.2.2.2.1 d).1 4 - 1) = true
      · obtain ⟨n, hn, he⟩ := (hS d hd).2.1
        have h3' := h3
        rw [he] at h3'
        obtain ⟨b, hb, rfl⟩ := inN hn h3'
        simp only [h1, h2, h3, gR_X0, gR_X1, gR_X2, gI_X3, gR_X4, gR_X5, gR_X6, cV_X, x_think, xmind_1, xmind_0, xmind_2, xnow_0, xnow_1, xnow_2, bk_some, bind_some', zb_0, zb_1, zb_or, cc_or, x_shelfAt w X hd, oc_some, S_cV w X hd, S_rowRefusal w X hd, S_gI4 w X hd, p_within, S_set w X hd hn he hb, ix7 hd, ix_nI (show b < 2 ^ 31 by omega), xsh_sig, if_true, if_false, not_true_eq_false, not_false_eq_true, Bool.false_eq_true, Bool.true_eq_false, reduceIte, ite_true, ite_false]
      · have h3 := Bool.eq_false_iff.mpr h3
        simp only [h1, h2, h3, gR_X0, gR_X1, gR_X2, gI_X3, gR_X4, gR_X5, gR_X6, cV_X, x_think, xmind_1, xmind_0, xmind_2, xnow_0, xnow_1, xnow_2, bk_some, bind_some', zb_0, zb_1, zb_or, cc_or, x_shelfAt w X hd, oc_some, S_cV w X hd, S_rowRefusal w X hd, S_gI4 w X hd, p_within, ix7 hd, xsig_self, if_true, if_false, not_true_eq_false, not_false_eq_true, Bool.false_eq_true, Bool.true_eq_false, reduceIte, ite_true, ite_false]
    · simp only [h1, h2, gR_X0, gR_X1, gR_X2, gI_X3, gR_X4, gR_X5, gR_X6, cV_X, x_think, xmind_1, xmind_0, xmind_2, xnow_0, xnow_1, xnow_2, bk_some, bind_some', zb_0, zb_1, zb_or, cc_or, x_shelfAt w X hd, oc_some, S_cV w X hd, S_rowRefusal w X hd, ix7 hd, xsig_self, if_true, if_false, not_true_eq_false, not_false_eq_true, Bool.false_eq_true, Bool.true_eq_false, reduceIte, ite_true, ite_false]
  · have h1 := Bool.eq_false_iff.mpr h1
    simp only [h1, gR_X0, gR_X1, gR_X2, gI_X3, gR_X4, gR_X5, gR_X6, cV_X, x_think, xmind_1, xmind_0, xmind_2, xnow_0, xnow_1, xnow_2, bk_some, bind_some', zb_0, zb_1, zb_or, cc_or, x_shelfNo w X h1, oc_none, xsig_self, if_true, if_false, not_true_eq_false, not_false_eq_true, Bool.false_eq_true, Bool.true_eq_false, reduceIte, ite_true, ite_false]
theorem m_narrowed (v k : Int32) (w : aW) : f_X4_narrowed v k w = some ((narI k v).toInt64, w) := by
  unfold f_X4_narrowed narI
  by_cases h1 : k = 0
  · simp [h1]
  · by_cases h2 : k = 1 <;> simp [h1, h2]
theorem WFs.sel {ν : aS} (h : WFs ν) (f : Nat → Int32) : WFs (sel ν f) := h
theorem m_put (w : aW) (κ : aK) {Y : aY} {σ : Nat → aS} (hC : Cp σ Y) (x i v : Int32) : ∃ Y', Yim Y Y' ∧ Cp (putO x i v σ).2 Y' ∧ f_X4_put 50 x i v (putY w κ Y) = some ((putO x i v σ).1, putY w κ Y') := by
  have hC' := hC.thr 0
  have hno : ∀ r : Int32, ∃ Y', Yim Y Y' ∧ Cp σ Y' ∧ some (r, putY w κ (yint Y 1 0)) = some (r, putY w κ Y') := fun r => ⟨_, Yim.thr Y 0, hC', rfl⟩
  unfold f_X4_put putO
  have ew := m_wrongRow w κ hC' x
  by_cases h1 : inR x 0 7 = true
  · obtain ⟨d, hd, rfl⟩ := in7 h1
    have er : refR σ (nI d) = rowR (σ d) := by unfold refR; rw [if_pos h1, ix7 hd]
    rw [er] at ew
    obtain ⟨hν, hY⟩ := hC' d hd
    by_cases h2 : rowR (σ d) = 0
    · have h20 := rowR_2 h2
      obtain ⟨hk, hsz, hel⟩ := hY.2.2 h20
      obtain ⟨n, hn, he⟩ := hν.2.1
      have e1 := p_in32 (x := i) (a := 0) (b := (σ d).1 4 - 1) (a' := 0) (b' := ((σ d).1 4 - 1).toInt64) rfl (Int32.toInt_toInt64 _)
      by_cases h3 : inR i 0 ((σ d).1 4 - 1) = true
      · have h3' := h3
        rw [he] at h3'
        obtain ⟨b, hb, rfl⟩ := inN hn h3'
        refine ⟨yrow (yint Y 1 0) (vp_updL Y.2.2.2.1 (100 * d + b) (narI ((σ d).1 3) v).toInt64), (Yim.thr Y 0).trans ⟨rfl, rfl, rfl⟩, ?_, ?_⟩
        · rw [if_pos h1, ix7 hd, if_pos h2, if_pos h3, ix_nI (by omega)]
          refine hC'.put hd (hν.sel _) ⟨hY.1, hY.2.1, fun _ => ⟨hk, hsz, fun i' hi' => ?_⟩⟩ (fun _ _ _ _ => rfl) (fun d' _ hne i' hi' => ?_)
          · show (if 100 * d + i' = 100 * d + b then _ else Y.2.2.2.1 (100 * d + i')) = (if i' = b then _ else (σ d).2 i').toInt64
            by_cases hib : i' = b
            · subst hib
              rw [if_pos rfl, if_pos rfl]
            · rw [if_neg (by omega), if_neg hib]
              exact hel i' hi'
          · show (if 100 * d' + i' = 100 * d + b then _ else Y.2.2.2.1 (100 * d' + i')) = _
            rw [if_neg (by omega)]
            rfl
        · simp only [h1, h2, h3, e1, ew, sF_Y19, gA_Y64 w κ _ hd, gA_Y63 w κ _ hd, hk, hsz, m_narrowed, h100 d hd, nI_add, sL_Y65 w κ _ (show 100 * d + b < 800 by omega), ix7 hd, ix_nI (show b < 2 ^ 31 by omega), gI_Y0, gR_Y1, gR_Y2, gR_Y3, gR_Y4, gR_Y5, gI_Y6, gR_Y7, gR_Y8, gR_Y9, gR_Y10, gI_Y11, gI_Y12, gR_Y13, gR_Y14, gR_Y15, gR_Y16, gR_Y17, gR_Y18, gI_Y19, gI_Y20, gI_Y21, gI_Y22, gI_Y23, gR_Y24, gR_Y25, gR_Y26, gR_Y27, gR_Y28, gI_Y29, gI_Y30, gI_Y31, gR_Y33, gR_Y34, gI_Y35, gR_Y36, cV_Y, bk_some, bind_some', zb_0, zb_1, zb_or, cc_or, kset_1, kset_21, kint_1, kint_21, kint_22, putY_moved, Int32.le_refl, if_true, if_false, not_true_eq_false, not_false_eq_true, Bool.false_eq_true, Bool.true_eq_false, reduceIte, ite_true, ite_false]
          rfl
      · have h3 := Bool.eq_false_iff.mpr h3
        simp only [h1, h2, h3, e1, ew, sF_Y19, gA_Y64 w κ _ hd, hsz, ix7 hd, gI_Y0, gR_Y1, gR_Y2, gR_Y3, gR_Y4, gR_Y5, gI_Y6, gR_Y7, gR_Y8, gR_Y9, gR_Y10, gI_Y11, gI_Y12, gR_Y13, gR_Y14, gR_Y15, gR_Y16, gR_Y17, gR_Y18, gI_Y19, gI_Y20, gI_Y21, gI_Y22, gI_Y23, gR_Y24, gR_Y25, gR_Y26, gR_Y27, gR_Y28, gI_Y29, gI_Y30, gI_Y31, gR_Y33, gR_Y34, gI_Y35, gR_Y36, cV_Y, bk_some, bind_some', zb_0, zb_1, zb_or, cc_or, kset_1, kset_21, kint_1, kint_21, kint_22, putY_moved, Int32.le_refl, if_true, if_false, not_true_eq_false, not_false_eq_true, Bool.false_eq_true, Bool.true_eq_false, reduceIte, ite_true, ite_false]
        exact hno _
    · simp only [h1, h2, ew, sF_Y19, nle0 (rowR_neg h2), ix7 hd, gI_Y0, gR_Y1, gR_Y2, gR_Y3, gR_Y4, gR_Y5, gI_Y6, gR_Y7, gR_Y8, gR_Y9, gR_Y10, gI_Y11, gI_Y12, gR_Y13, gR_Y14, gR_Y15, gR_Y16, gR_Y17, gR_Y18, gI_Y19, gI_Y20, gI_Y21, gI_Y22, gI_Y23, gR_Y24, gR_Y25, gR_Y26, gR_Y27, gR_Y28, gI_Y29, gI_Y30, gI_Y31, gR_Y33, gR_Y34, gI_Y35, gR_Y36, cV_Y, bk_some, bind_some', zb_0, zb_1, zb_or, cc_or, kset_1, kset_21, kint_1, kint_21, kint_22, putY_moved, if_true, if_false, not_true_eq_false, not_false_eq_true, Bool.false_eq_true, Bool.true_eq_false, reduceIte, ite_true, ite_false]
      exact hno _
  · have h1 := Bool.eq_false_iff.mpr h1
    have er : refR σ x = -1 := by unfold refR; rw [if_neg (by rw [h1]; decide)]
    rw [er] at ew
    simp only [h1, ew, sF_Y19, m1_nle, gI_Y0, gR_Y1, gR_Y2, gR_Y3, gR_Y4, gR_Y5, gI_Y6, gR_Y7, gR_Y8, gR_Y9, gR_Y10, gI_Y11, gI_Y12, gR_Y13, gR_Y14, gR_Y15, gR_Y16, gR_Y17, gR_Y18, gI_Y19, gI_Y20, gI_Y21, gI_Y22, gI_Y23, gR_Y24, gR_Y25, gR_Y26, gR_Y27, gR_Y28, gI_Y29, gI_Y30, gI_Y31, gR_Y33, gR_Y34, gI_Y35, gR_Y36, cV_Y, bk_some, bind_some', zb_0, zb_1, zb_or, cc_or, kset_1, kset_21, kint_1, kint_21, kint_22, putY_moved, if_true, if_false, not_true_eq_false, not_false_eq_true, Bool.false_eq_true, Bool.true_eq_false, reduceIte, ite_true, ite_false]
    exact hno _
/-! element, at the model -/
def elemK (x i : Int32) (σ : Nat → aS) : Int32 × Int64 := if inR x 0 7 = true then (if rowR (σ (ix x)) = 0 then (if inR i 0 ((σ (ix x)).1 4 - 1) = true then (0, ((σ (ix x)).2 (ix i)).toInt64) else (2, 0)) else (2, 0)) else (1, 0)
theorem m_element (w : aW) (κ : aK) {Y : aY} {σ : Nat → aS} (hC : Cp σ Y) (x i : Int32) : f_X4_element 50 x i (putY w κ Y) = some ((elemK x i σ).2, putY w κ (yint Y 1 (elemK x i σ).1)) := by
  unfold f_X4_element elemK
  have ew := m_wrongRow w κ hC x
  by_cases h1 : inR x 0 7 = true
  · obtain ⟨d, hd, rfl⟩ := in7 h1
    have er : refR σ (nI d) = rowR (σ d) := by unfold refR; rw [if_pos h1, ix7 hd]
    rw [er] at ew
    obtain ⟨hν, hY⟩ := hC d hd
    by_cases h2 : rowR (σ d) = 0
    · have h20 := rowR_2 h2
      obtain ⟨hk, hsz, hel⟩ := hY.2.2 h20
      obtain ⟨n, hn, he⟩ := hν.2.1
      have e1 := p_in32 (x := i) (a := 0) (b := (σ d).1 4 - 1) (a' := 0) (b' := ((σ d).1 4 - 1).toInt64) rfl (Int32.toInt_toInt64 _)
      by_cases h3 : inR i 0 ((σ d).1 4 - 1) = true
      · have h3' := h3
        rw [he] at h3'
        obtain ⟨b, hb, rfl⟩ := inN hn h3'
        have ev := hel b (by omega)
        simp only [h1, h2, h3, e1, ew, show ¬ (0 : Int32) = -1 by decide, show ¬ (0 : Int32) < 0 by decide, c_X4_element_43, sF_Y19, gA_Y64 w κ _ hd, hsz, yint_1, yint_2, h100 d hd, nI_add, gL_Y65 w κ _ (show 100 * d + b < 800 by omega), ev, ix7 hd, ix_nI (show b < 2 ^ 31 by omega), gI_Y0, gR_Y1, gR_Y2, gR_Y3, gR_Y4, gR_Y5, gI_Y6, gR_Y7, gR_Y8, gR_Y9, gR_Y10, gI_Y11, gI_Y12, gR_Y13, gR_Y14, gR_Y15, gR_Y16, gR_Y17, gR_Y18, gI_Y19, gI_Y20, gI_Y21, gI_Y22, gI_Y23, gR_Y24, gR_Y25, gR_Y26, gR_Y27, gR_Y28, gI_Y29, gI_Y30, gI_Y31, gR_Y33, gR_Y34, gI_Y35, gR_Y36, cV_Y, bk_some, bind_some', zb_0, zb_1, zb_or, cc_or, kset_1, kset_21, kint_1, kint_21, kint_22, putY_moved, Int32.le_refl, if_true, if_true, if_false, not_true_eq_false, not_false_eq_true, Bool.false_eq_true, Bool.true_eq_false, reduceIte, ite_true, ite_false]
      · have h3 := Bool.eq_false_iff.mpr h3
        simp only [h1, h2, h3, e1, ew, show ¬ (0 : Int32) = -1 by decide, show ¬ (0 : Int32) < 0 by decide, show ¬ (2 : Int32) ≤ 0 by decide, c_X4_element_43, sF_Y19, gA_Y64 w κ _ hd, hsz, yint_1, ix7 hd, gI_Y0, gR_Y1, gR_Y2, gR_Y3, gR_Y4, gR_Y5, gI_Y6, gR_Y7, gR_Y8, gR_Y9, gR_Y10, gI_Y11, gI_Y12, gR_Y13, gR_Y14, gR_Y15, gR_Y16, gR_Y17, gR_Y18, gI_Y19, gI_Y20, gI_Y21, gI_Y22, gI_Y23, gR_Y24, gR_Y25, gR_Y26, gR_Y27, gR_Y28, gI_Y29, gI_Y30, gI_Y31, gR_Y33, gR_Y34, gI_Y35, gR_Y36, cV_Y, bk_some, bind_some', zb_0, zb_1, zb_or, cc_or, kset_1, kset_21, kint_1, kint_21, kint_22, putY_moved, if_true, if_true, if_false, not_true_eq_false, not_false_eq_true, Bool.false_eq_true, Bool.true_eq_false, reduceIte, ite_true, ite_false]
    · have hn1 : ¬ rowR (σ d) = -1 := by
        unfold rowR
        by_cases q1 : (σ d).1 0 = 0
        · simp only [q1, if_true, if_false, not_true_eq_false, not_false_eq_true, Bool.false_eq_true, Bool.true_eq_false, reduceIte, ite_true, ite_false]; decide
        · by_cases q2 : (σ d).1 0 = 2
          · simp only [q1, q2, if_true, if_false, not_true_eq_false, not_false_eq_true, Bool.false_eq_true, Bool.true_eq_false, reduceIte, ite_true, ite_false]; decide
          · simp only [q1, q2, if_true, if_false, not_true_eq_false, not_false_eq_true, Bool.false_eq_true, Bool.true_eq_false, reduceIte, ite_true, ite_false]; decide
      simp only [h1, h2, ew, hn1, rowR_neg h2, show ¬ (2 : Int32) ≤ 0 by decide, c_X4_element_43, sF_Y19, yint_1, ix7 hd, gI_Y0, gR_Y1, gR_Y2, gR_Y3, gR_Y4, gR_Y5, gI_Y6, gR_Y7, gR_Y8, gR_Y9, gR_Y10, gI_Y11, gI_Y12, gR_Y13, gR_Y14, gR_Y15, gR_Y16, gR_Y17, gR_Y18, gI_Y19, gI_Y20, gI_Y21, gI_Y22, gI_Y23, gR_Y24, gR_Y25, gR_Y26, gR_Y27, gR_Y28, gI_Y29, gI_Y30, gI_Y31, gR_Y33, gR_Y34, gI_Y35, gR_Y36, cV_Y, bk_some, bind_some', zb_0, zb_1, zb_or, cc_or, kset_1, kset_21, kint_1, kint_21, kint_22, putY_moved, if_true, if_true, if_false, not_true_eq_false, not_false_eq_true, Bool.false_eq_true, Bool.true_eq_false, reduceIte, ite_true, ite_false]
  · have h1 := Bool.eq_false_iff.mpr h1
    have er : refR σ x = -1 := by unfold refR; rw [if_neg (by rw [h1]; decide)]
    rw [er] at ew
    simp only [h1, ew, show ¬ (1 : Int32) ≤ 0 by decide, c_X4_element_43, sF_Y19, yint_1, gI_Y0, gR_Y1, gR_Y2, gR_Y3, gR_Y4, gR_Y5, gI_Y6, gR_Y7, gR_Y8, gR_Y9, gR_Y10, gI_Y11, gI_Y12, gR_Y13, gR_Y14, gR_Y15, gR_Y16, gR_Y17, gR_Y18, gI_Y19, gI_Y20, gI_Y21, gI_Y22, gI_Y23, gR_Y24, gR_Y25, gR_Y26, gR_Y27, gR_Y28, gI_Y29, gI_Y30, gI_Y31, gR_Y33, gR_Y34, gI_Y35, gR_Y36, cV_Y, bk_some, bind_some', zb_0, zb_1, zb_or, cc_or, kset_1, kset_21, kint_1, kint_21, kint_22, putY_moved, if_true, if_true, if_false, not_true_eq_false, not_false_eq_true, Bool.false_eq_true, Bool.true_eq_false, reduceIte, ite_true, ite_false]
/-! cost -/
def costK (x : Int32) (σ : Nat → aS) : Int32 := if inR x 0 7 = true then (if beaR (σ (ix x)) = 0 then costI ((σ (ix x)).1 1) ((σ (ix x)).1 2) else beaR (σ (ix x))) else -1
theorem x_cost (w : aW) (X : aX) (x : Int32) : f_X3_cost 0 x (putX w X) = some (costK x X.2.2.2.2.1, putX w X) := by
  unfold f_X3_cost costK
  by_cases h1 : inR x 0 7 = true
  · obtain ⟨d, hd, rfl⟩ := in7 h1
    by_cases h2 : beaR (X.2.2.2.2.1 d) = 0
    · simp only [h1, h2, gR_X0, gR_X1, gR_X2, gI_X3, gR_X4, gR_X5, gR_X6, cV_X, x_think, xmind_1, xmind_0, xmind_2, xnow_0, xnow_1, xnow_2, bk_some, bind_some', zb_0, zb_1, zb_or, cc_or, x_shelfAt w X hd, oc_some, S_cV w X hd, S_beastRefusal w X hd, S_gI1 w X hd, S_gI2 w X hd, p_costOf, ix7 hd, if_true, if_false, not_true_eq_false, not_false_eq_true, Bool.false_eq_true, Bool.true_eq_false, reduceIte, ite_true, ite_false]
    · simp only [h1, h2, gR_X0, gR_X1, gR_X2, gI_X3, gR_X4, gR_X5, gR_X6, cV_X, x_think, xmind_1, xmind_0, xmind_2, xnow_0, xnow_1, xnow_2, bk_some, bind_some', zb_0, zb_1, zb_or, cc_or, x_shelfAt w X hd, oc_some, S_cV w X hd, S_beastRefusal w X hd, ix7 hd, if_true, if_false, not_true_eq_false, not_false_eq_true, Bool.false_eq_true, Bool.true_eq_false, reduceIte, ite_true, ite_false]
  · have h1 := Bool.eq_false_iff.mpr h1
    simp only [h1, gR_X0, gR_X1, gR_X2, gI_X3, gR_X4, gR_X5, gR_X6, cV_X, x_think, xmind_1, xmind_0, xmind_2, xnow_0, xnow_1, xnow_2, bk_some, bind_some', zb_0, zb_1, zb_or, cc_or, x_shelfNo w X h1, oc_none, if_true, if_false, not_true_eq_false, not_false_eq_true, Bool.false_eq_true, Bool.true_eq_false, reduceIte, ite_true, ite_false]
theorem cost_same : ∀ s, s < 8 → ∀ f, f < 10 → (if nI s = 0 then nI f else if nI s = 1 then (1 : Int32) else if nI s = 2 then nI f + 3 else if nI s = 3 then 2 * (nI f + 3) else if nI s = 4 then 5 else if nI s = 5 then 0 else if nI s = 6 then 2 * (nI f + 3) else 1) = costI (nI s) (nI f) := by decide +kernel
theorem m_costOf {s f : Nat} (hs : s ≤ 7) (hf : f ≤ 9) (w : aW) : f_X4_costOf (nI s) (nI f) w = some (costI (nI s) (nI f), w) := by
  unfold f_X4_costOf
  rw [← cost_same s (by omega) f (by omega)]
  repeat' split
  all_goals rfl
theorem m_cost (w : aW) (κ : aK) {Y : aY} {σ : Nat → aS} (hC : Cp σ Y) (x : Int32) : f_X4_cost 50 x (putY w κ Y) = some (costK x σ, putY w κ (yint Y 1 0)) := by
  have hC' := hC.thr 0
  unfold f_X4_cost costK
  have ew := m_wrongKept w κ hC' x
  by_cases h1 : inR x 0 7 = true
  · obtain ⟨d, hd, rfl⟩ := in7 h1
    have er : refB σ (nI d) = beaR (σ d) := by unfold refB; rw [if_pos h1, ix7 hd]
    rw [er] at ew
    obtain ⟨hν, hY⟩ := hC' d hd
    by_cases h2 : beaR (σ d) = 0
    · have h20 := beaR_1 h2
      obtain ⟨hk, hf⟩ := hY.2.1 h20
      obtain ⟨⟨s, hs, es⟩, f, hf9, ef⟩ := hν.2.2 h20
      simp only [h1, h2, ew, sF_Y19, gA_Y61 w κ _ hd, gA_Y62 w κ _ hd, hk, hf, es, ef, m_costOf hs hf9, ix7 hd, gI_Y0, gR_Y1, gR_Y2, gR_Y3, gR_Y4, gR_Y5, gI_Y6, gR_Y7, gR_Y8, gR_Y9, gR_Y10, gI_Y11, gI_Y12, gR_Y13, gR_Y14, gR_Y15, gR_Y16, gR_Y17, gR_Y18, gI_Y19, gI_Y20, gI_Y21, gI_Y22, gI_Y23, gR_Y24, gR_Y25, gR_Y26, gR_Y27, gR_Y28, gI_Y29, gI_Y30, gI_Y31, gR_Y33, gR_Y34, gI_Y35, gR_Y36, cV_Y, bk_some, bind_some', zb_0, zb_1, zb_or, cc_or, kset_1, kset_21, kint_1, kint_21, kint_22, putY_moved, Int32.le_refl, if_true, if_false, not_true_eq_false, not_false_eq_true, Bool.false_eq_true, Bool.true_eq_false, reduceIte, ite_true, ite_false]
    · simp only [h1, h2, ew, sF_Y19, nle0 (beaR_neg h2), ix7 hd, gI_Y0, gR_Y1, gR_Y2, gR_Y3, gR_Y4, gR_Y5, gI_Y6, gR_Y7, gR_Y8, gR_Y9, gR_Y10, gI_Y11, gI_Y12, gR_Y13, gR_Y14, gR_Y15, gR_Y16, gR_Y17, gR_Y18, gI_Y19, gI_Y20, gI_Y21, gI_Y22, gI_Y23, gR_Y24, gR_Y25, gR_Y26, gR_Y27, gR_Y28, gI_Y29, gI_Y30, gI_Y31, gR_Y33, gR_Y34, gI_Y35, gR_Y36, cV_Y, bk_some, bind_some', zb_0, zb_1, zb_or, cc_or, kset_1, kset_21, kint_1, kint_21, kint_22, putY_moved, if_true, if_false, not_true_eq_false, not_false_eq_true, Bool.false_eq_true, Bool.true_eq_false, reduceIte, ite_true, ite_false]
  · have h1 := Bool.eq_false_iff.mpr h1
    have er : refB σ x = -1 := by unfold refB; rw [if_neg (by rw [h1]; decide)]
    rw [er] at ew
    simp only [h1, ew, sF_Y19, m1_nle, gI_Y0, gR_Y1, gR_Y2, gR_Y3, gR_Y4, gR_Y5, gI_Y6, gR_Y7, gR_Y8, gR_Y9, gR_Y10, gI_Y11, gI_Y12, gR_Y13, gR_Y14, gR_Y15, gR_Y16, gR_Y17, gR_Y18, gI_Y19, gI_Y20, gI_Y21, gI_Y22, gI_Y23, gR_Y24, gR_Y25, gR_Y26, gR_Y27, gR_Y28, gI_Y29, gI_Y30, gI_Y31, gR_Y33, gR_Y34, gI_Y35, gR_Y36, cV_Y, bk_some, bind_some', zb_0, zb_1, zb_or, cc_or, kset_1, kset_21, kint_1, kint_21, kint_22, putY_moved, if_true, if_false, not_true_eq_false, not_false_eq_true, Bool.false_eq_true, Bool.true_eq_false, reduceIte, ite_true, ite_false]
/-! toss, at the model -/
def failI (s f : Int32) : Int32 := if f = 0 then -15 else if s = 0 then f else if s = 1 ∨ s = 4 then -15 else if s = 5 ∨ s = 7 then 200 + costI s f else 100 + f
def tossK (x : Int32) (σ : Nat → aS) : Int32 := if inR x 0 7 = true then (if beaR (σ (ix x)) = 0 then failI ((σ (ix x)).1 1) ((σ (ix x)).1 2) else beaR (σ (ix x))) else -1
theorem m_toss (w : aW) (κ : aK) {Y : aY} {σ : Nat → aS} (hC : Cp σ Y) (x : Int32) : f_X4_toss 50 x (putY w κ Y) = some (tossK x σ, putY w κ (yint Y 1 0)) := by
  have hC' := hC.thr 0
  unfold f_X4_toss tossK
  have ew := m_wrongKept w κ hC' x
  by_cases h1 : inR x 0 7 = true
  · obtain ⟨d, hd, rfl⟩ := in7 h1
    have er : refB σ (nI d) = beaR (σ d) := by unfold refB; rw [if_pos h1, ix7 hd]
    rw [er] at ew
    obtain ⟨hν, hY⟩ := hC' d hd
    by_cases h2 : beaR (σ d) = 0
    · have h20 := beaR_1 h2
      obtain ⟨hk, hf⟩ := hY.2.1 h20
      obtain ⟨⟨s, hs, es⟩, f, hf9, ef⟩ := hν.2.2 h20
      simp only [h1, h2, ew, sF_Y19, gA_Y61 w κ _ hd, gA_Y62 w κ _ hd, hk, hf, es, ef, m_costOf hs hf9, ix7 hd, gI_Y0, gR_Y1, gR_Y2, gR_Y3, gR_Y4, gR_Y5, gI_Y6, gR_Y7, gR_Y8, gR_Y9, gR_Y10, gI_Y11, gI_Y12, gR_Y13, gR_Y14, gR_Y15, gR_Y16, gR_Y17, gR_Y18, gI_Y19, gI_Y20, gI_Y21, gI_Y22, gI_Y23, gR_Y24, gR_Y25, gR_Y26, gR_Y27, gR_Y28, gI_Y29, gI_Y30, gI_Y31, gR_Y33, gR_Y34, gI_Y35, gR_Y36, cV_Y, bk_some, bind_some', zb_0, zb_1, zb_or, cc_or, kset_1, kset_21, kint_1, kint_21, kint_22, putY_moved, Int32.le_refl, if_true, if_false, not_true_eq_false, not_false_eq_true, Bool.false_eq_true, Bool.true_eq_false, reduceIte, ite_true, ite_false]
      have key : ∀ s, s < 8 → ∀ f, f < 10 → ((nI s = 0) = (s = 0)) ∧ ((nI s = 1) = (s = 1)) ∧ ((nI s = 4) = (s = 4)) ∧ ((nI s = 5) = (s = 5)) ∧ ((nI s = 7) = (s = 7)) ∧ ((nI f = 0) = (f = 0)) := by
        intro s hs f hf
        have q : ∀ a b, a < 10 → b < 10 → ((nI a = nI b) = (a = b)) := fun a b ha hb => propext (nI_eq (by omega) (by omega))
        exact ⟨q s 0 (by omega) (by omega), q s 1 (by omega) (by omega), q s 4 (by omega) (by omega), q s 5 (by omega) (by omega), q s 7 (by omega) (by omega), q f 0 (by omega) (by omega)⟩
      obtain ⟨k0, k1, k4, k5, k7, kf⟩ := key s (by omega) f (by omega)
      unfold failI
      simp only [k0, k1, k4, k5, k7, kf]
      by_cases q1 : s = 1
      · subst q1; by_cases qf : f = 0 <;> simp [qf]
      · by_cases q4 : s = 4
        · subst q4; by_cases qf : f = 0 <;> simp [qf]
        · by_cases qf : f = 0
          · simp [q1, q4, qf]
          · by_cases q0 : s = 0
            · simp [q0, qf]
            · by_cases q5 : s = 5
              · simp [q5, qf]
              · by_cases q7 : s = 7
                · simp [q7, qf]
                · simp [q0, q1, q4, q5, q7, qf]
    · simp only [h1, h2, ew, sF_Y19, nle0 (beaR_neg h2), ix7 hd, gI_Y0, gR_Y1, gR_Y2, gR_Y3, gR_Y4, gR_Y5, gI_Y6, gR_Y7, gR_Y8, gR_Y9, gR_Y10, gI_Y11, gI_Y12, gR_Y13, gR_Y14, gR_Y15, gR_Y16, gR_Y17, gR_Y18, gI_Y19, gI_Y20, gI_Y21, gI_Y22, gI_Y23, gR_Y24, gR_Y25, gR_Y26, gR_Y27, gR_Y28, gI_Y29, gI_Y30, gI_Y31, gR_Y33, gR_Y34, gI_Y35, gR_Y36, cV_Y, bk_some, bind_some', zb_0, zb_1, zb_or, cc_or, kset_1, kset_21, kint_1, kint_21, kint_22, putY_moved, if_true, if_false, not_true_eq_false, not_false_eq_true, Bool.false_eq_true, Bool.true_eq_false, reduceIte, ite_true, ite_false]
  · have h1 := Bool.eq_false_iff.mpr h1
    have er : refB σ x = -1 := by unfold refB; rw [if_neg (by rw [h1]; decide)]
    rw [er] at ew
    simp only [h1, ew, sF_Y19, m1_nle, gI_Y0, gR_Y1, gR_Y2, gR_Y3, gR_Y4, gR_Y5, gI_Y6, gR_Y7, gR_Y8, gR_Y9, gR_Y10, gI_Y11, gI_Y12, gR_Y13, gR_Y14, gR_Y15, gR_Y16, gR_Y17, gR_Y18, gI_Y19, gI_Y20, gI_Y21, gI_Y22, gI_Y23, gR_Y24, gR_Y25, gR_Y26, gR_Y27, gR_Y28, gI_Y29, gI_Y30, gI_Y31, gR_Y33, gR_Y34, gI_Y35, gR_Y36, cV_Y, bk_some, bind_some', zb_0, zb_1, zb_or, cc_or, kset_1, kset_21, kint_1, kint_21, kint_22, putY_moved, if_true, if_false, not_true_eq_false, not_false_eq_true, Bool.false_eq_true, Bool.true_eq_false, reduceIte, ite_true, ite_false]
