/-! PURE: what holds of a Mountain, and what a day does -/
def WFb (κ : aK) (i : Nat) : Prop := (∃ s, s ≤ 7 ∧ κ.2.2 0 i = nI s) ∧ (∃ f, f ≤ 9 ∧ κ.2.2 1 i = nI f) ∧ (∃ x, x ≤ 15 ∧ κ.2.2 2 i = nI x) ∧ (∃ h, h ≤ 9 ∧ κ.2.2 3 i = nI h) ∧ (κ.2.2 4 i = -4 ∨ ∃ p, p < 5 ∧ κ.2.2 4 i = nI p)
def WFp (κ : aK) (p : Nat) : Prop := (∃ m, m ≤ 999 ∧ κ.2.2 5 p = nI m) ∧ (∃ x, x ≤ 15 ∧ κ.2.2 6 p = nI x) ∧ (∃ t, t ≤ 3 ∧ κ.2.2 7 p = nI t) ∧ (∃ g, g ≤ 99 ∧ κ.2.2 8 p = nI g)
/-- the beasts that aren't there: of nobody, not alive -/
def WFe (κ : aK) : Prop := ∀ i, κ.1 ≤ i → i < 9 → κ.2.2 4 i = -4 ∧ bitB (κ.2.1 1) (nI i) = false
def WF (κ : aK) : Prop := κ.1 ≤ 9 ∧ (∀ i, i < 9 → WFb κ i) ∧ (∀ p, p < 5 → WFp κ p) ∧ (∃ a, a < 512 ∧ κ.2.1 1 = nI a) ∧ WFe κ
theorem WF.many {κ : aK} (h : WF κ) {i : Nat} (hi : i < 9) (hb : bitB (κ.2.1 1) (nI i) = true) : i < κ.1 := by
  rcases Nat.lt_or_ge i κ.1 with h1 | h1
  · exact h1
  · have := (h.2.2.2.2 i h1 hi).2
    rw [this] at hb
    cases hb
theorem WF.called {κ : aK} (h : WF κ) {i : Nat} (hi : i < 9) (hb : κ.2.2 4 i ≠ -4) : i < κ.1 := by
  rcases Nat.lt_or_ge i κ.1 with h1 | h1
  · exact h1
  · exact absurd (h.2.2.2.2 i h1 hi).1 hb
theorem WF.place {κ : aK} (h : WF κ) {i x : Nat} (hx : x ≤ 15) : WF (kset κ 2 i (nI x)) := by
  obtain ⟨h1, h2, h3, h4, h5⟩ := h
  refine ⟨h1, fun z hz => ?_, fun p hp => ?_, h4, fun z h6 h7 => ?_⟩
  · have := h2 z hz
    unfold WFb at this ⊢
    simp only [kset_22]
    by_cases hzi : z = i
    · simpa [hzi] using ⟨by simpa [hzi] using this.1, by simpa [hzi] using this.2.1, ⟨x, hx, rfl⟩, by simpa [hzi] using this.2.2.2.1, by simpa [hzi] using this.2.2.2.2⟩
    · simpa [hzi] using this
  · have := h3 p hp
    unfold WFp at this ⊢
    simpa [kset_22] using this
  · have := h5 z h6 h7
    simpa [kset_22, kset_21] using this
theorem WF.hunger {κ : aK} (h : WF κ) {i x : Nat} (hx : x ≤ 9) : WF (kset κ 3 i (nI x)) := by
  obtain ⟨h1, h2, h3, h4, h5⟩ := h
  refine ⟨h1, fun z hz => ?_, fun p hp => ?_, h4, fun z h6 h7 => ?_⟩
  · have := h2 z hz
    unfold WFb at this ⊢
    simp only [kset_22]
    by_cases hzi : z = i
    · simpa [hzi] using ⟨by simpa [hzi] using this.1, by simpa [hzi] using this.2.1, by simpa [hzi] using this.2.2.1, ⟨x, hx, rfl⟩, by simpa [hzi] using this.2.2.2.2⟩
    · simpa [hzi] using this
  · have := h3 p hp
    unfold WFp at this ⊢
    simpa [kset_22] using this
  · have := h5 z h6 h7
    simpa [kset_22, kset_21] using this
theorem WF.caller {κ : aK} (h : WF κ) {i : Nat} {x : Int32} (hx : x = -4 ∨ (i < κ.1 ∧ ∃ p, p < 5 ∧ x = nI p)) : WF (kset κ 4 i x) := by
  obtain ⟨h1, h2, h3, h4, h5⟩ := h
  refine ⟨h1, fun z hz => ?_, fun p hp => ?_, h4, fun z h6 h7 => ?_⟩
  · have := h2 z hz
    unfold WFb at this ⊢
    simp only [kset_22]
    by_cases hzi : z = i
    · simpa [hzi] using ⟨by simpa [hzi] using this.1, by simpa [hzi] using this.2.1, by simpa [hzi] using this.2.2.1, by simpa [hzi] using this.2.2.2.1, hx.imp id (fun q => q.2)⟩
    · simpa [hzi] using this
  · have := h3 p hp
    unfold WFp at this ⊢
    simpa [kset_22] using this
  · have := h5 z h6 h7
    have h8 : (kset κ 4 i x).2.2 4 z = -4 := by
      rw [kset_22]
      by_cases hzi : z = i
      · rcases hx with hx | ⟨hx, -⟩
        · simp [hzi, hx]
        · subst hzi
          have h6' : κ.1 ≤ z := h6
          omega
      · simp [hzi, this.1]
    exact ⟨h8, this.2⟩
theorem WF.purse {κ : aK} (h : WF κ) {p x : Nat} (hx : x ≤ 999) : WF (kset κ 5 p (nI x)) := by
  obtain ⟨h1, h2, h3, h4, h5⟩ := h
  refine ⟨h1, fun z hz => ?_, fun q hq => ?_, h4, fun z h6 h7 => ?_⟩
  · have := h2 z hz
    unfold WFb at this ⊢
    simpa [kset_22] using this
  · have := h3 q hq
    unfold WFp at this ⊢
    simp only [kset_22]
    by_cases hqp : q = p
    · simpa [hqp] using ⟨⟨x, hx, rfl⟩, by simpa [hqp] using this.2⟩
    · simpa [hqp] using this
  · have := h5 z h6 h7
    simpa [kset_22, kset_21] using this
theorem WF.spot {κ : aK} (h : WF κ) {p x : Nat} (hx : x ≤ 15) : WF (kset κ 6 p (nI x)) := by
  obtain ⟨h1, h2, h3, h4, h5⟩ := h
  refine ⟨h1, fun z hz => ?_, fun q hq => ?_, h4, fun z h6 h7 => ?_⟩
  · have := h2 z hz
    unfold WFb at this ⊢
    simpa [kset_22] using this
  · have := h3 q hq
    unfold WFp at this ⊢
    simp only [kset_22]
    by_cases hqp : q = p
    · simpa [hqp] using ⟨by simpa [hqp] using this.1, ⟨x, hx, rfl⟩, by simpa [hqp] using this.2.2⟩
    · simpa [hqp] using this
  · have := h5 z h6 h7
    simpa [kset_22, kset_21] using this
theorem WF.speech {κ : aK} (h : WF κ) {p x : Nat} (hx : x ≤ 3) : WF (kset κ 7 p (nI x)) := by
  obtain ⟨h1, h2, h3, h4, h5⟩ := h
  refine ⟨h1, fun z hz => ?_, fun q hq => ?_, h4, fun z h6 h7 => ?_⟩
  · have := h2 z hz
    unfold WFb at this ⊢
    simpa [kset_22] using this
  · have := h3 q hq
    unfold WFp at this ⊢
    simp only [kset_22]
    by_cases hqp : q = p
    · simpa [hqp] using ⟨by simpa [hqp] using this.1, by simpa [hqp] using this.2.1, ⟨x, hx, rfl⟩, by simpa [hqp] using this.2.2.2⟩
    · simpa [hqp] using this
  · have := h5 z h6 h7
    simpa [kset_22, kset_21] using this
theorem WF.grief {κ : aK} (h : WF κ) {p x : Nat} (hx : x ≤ 99) : WF (kset κ 8 p (nI x)) := by
  obtain ⟨h1, h2, h3, h4, h5⟩ := h
  refine ⟨h1, fun z hz => ?_, fun q hq => ?_, h4, fun z h6 h7 => ?_⟩
  · have := h2 z hz
    unfold WFb at this ⊢
    simpa [kset_22] using this
  · have := h3 q hq
    unfold WFp at this ⊢
    simp only [kset_22]
    by_cases hqp : q = p
    · simpa [hqp] using ⟨by simpa [hqp] using this.1, by simpa [hqp] using this.2.1, by simpa [hqp] using this.2.2.1, ⟨x, hx, rfl⟩⟩
    · simpa [hqp] using this
  · have := h5 z h6 h7
    simpa [kset_22, kset_21] using this
theorem WF.int {κ : aK} (h : WF κ) {a : Nat} (ha : a ≠ 1) (x : Int32) : WF (kint κ a x) := by
  obtain ⟨h1, h2, h3, h4, h5⟩ := h
  have e : (kint κ a x).2.1 1 = κ.2.1 1 := by rw [kint_21]; simp [Ne.symm ha]
  refine ⟨h1, h2, h3, by rw [e]; exact h4, fun z h6 h7 => ?_⟩
  rw [e]
  exact h5 z h6 h7
def oneI (i : Nat) : Int32 := (1 : Int32) <<< (nI i &&& 31)
theorem b_nI {a : Nat} (ha : a < 512) {i : Nat} (h9 : 9 ≤ i) : bt (nI a) i = false := by
  rcases Nat.lt_or_ge i 32 with h | h
  · unfold bt
    have e : (nI a).toBitVec = BitVec.ofNat 32 a := rfl
    rw [e, BitVec.getLsbD_ofNat]
    have : a < 2 ^ i := Nat.lt_of_lt_of_le ha (Nat.pow_le_pow_right (by decide) h9 : 2 ^ 9 ≤ 2 ^ i)
    simp [Nat.testBit_lt_two_pow this]
  · exact b_big h
/-- a number whose bits from 9 on are off -/
theorem b_lt {x : Int32} (h : ∀ i, 9 ≤ i → i < 32 → bt x i = false) : ∃ a, a < 512 ∧ x = nI a := by
  refine ⟨x.toBitVec.toNat, ?_, ?_⟩
  · apply Nat.lt_of_testBit 9
    · sorry
    · sorry
    · sorry
  · sorry
