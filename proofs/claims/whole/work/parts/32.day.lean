/-! PURE: what holds of a Mountain, and what a day does -/
def WFb (κ : aK) (i : Nat) : Prop := (∃ s, s ≤ 7 ∧ κ.2.2 0 i = nI s) ∧ (∃ f, f ≤ 9 ∧ κ.2.2 1 i = nI f) ∧ (∃ x, x ≤ 15 ∧ κ.2.2 2 i = nI x) ∧ (∃ h, h ≤ 9 ∧ κ.2.2 3 i = nI h) ∧ (κ.2.2 4 i = -4 ∨ ∃ p, p < 5 ∧ κ.2.2 4 i = nI p)
def WFp (κ : aK) (p : Nat) : Prop := (∃ m, m ≤ 999 ∧ κ.2.2 5 p = nI m) ∧ (∃ x, x ≤ 15 ∧ κ.2.2 6 p = nI x) ∧ (∃ t, t ≤ 3 ∧ κ.2.2 7 p = nI t) ∧ (∃ g, g ≤ 99 ∧ κ.2.2 8 p = nI g)
/-- the beasts that aren't there: of nobody, not alive -/
def WFe (κ : aK) : Prop := ∀ i, κ.1 ≤ i → i < 9 → κ.2.2 4 i = -4 ∧ bitB (κ.2.1 1) (nI i) = false
def WF (κ : aK) : Prop := κ.1 ≤ 9 ∧ (∀ i, i < 9 → WFb κ i) ∧ (∀ p, p < 5 → WFp κ p) ∧ (∃ a, a < 512 ∧ κ.2.1 1 = nI a) ∧ WFe κ
theorem WF.many {κ : aK} (h : WF κ) {i : Nat} (hi : i < 9) (hb : bitB (κ.2.1 1) (nI i) = true) : i < κ.1 := by
  rcases Nat.lt_or_ge i κ.1 with h1 | h1
  · exact h1
  · have := (h.2.2.2.2 i h1 hi).2
    rw [this] at hb
    cases hb
theorem WF.called {κ : aK} (h : WF κ) {i : Nat} (hi : i < 9) (hb : κ.2.2 4 i ≠ -4) : i < κ.1 := by
  rcases Nat.lt_or_ge i κ.1 with h1 | h1
  · exact h1
  · exact absurd (h.2.2.2.2 i h1 hi).1 hb
theorem WF.place {κ : aK} (h : WF κ) {i x : Nat} (hx : x ≤ 15) : WF (kset κ 2 i (nI x)) := by
  obtain ⟨h1, h2, h3, h4, h5⟩ := h
  refine ⟨h1, fun z hz => ?_, fun p hp => ?_, h4, fun z h6 h7 => ?_⟩
  · have := h2 z hz
    unfold WFb at this ⊢
    simp only [kset_22]
    by_cases hzi : z = i
    · simpa [hzi] using ⟨by simpa [hzi] using this.1, by simpa [hzi] using this.2.1, ⟨x, hx, rfl⟩, by simpa [hzi] using this.2.2.2.1, by simpa [hzi] using this.2.2.2.2⟩
    · simpa [hzi] using this
  · have := h3 p hp
    unfold WFp at this ⊢
    simpa [kset_22] using this
  · have := h5 z h6 h7
    simpa [kset_22, kset_21] using this
theorem WF.hunger {κ : aK} (h : WF κ) {i x : Nat} (hx : x ≤ 9) : WF (kset κ 3 i (nI x)) := by
  obtain ⟨h1, h2, h3, h4, h5⟩ := h
  refine ⟨h1, fun z hz => ?_, fun p hp => ?_, h4, fun z h6 h7 => ?_⟩
  · have := h2 z hz
    unfold WFb at this ⊢
    simp only [kset_22]
    by_cases hzi : z = i
    · simpa [hzi] using ⟨by simpa [hzi] using this.1, by simpa [hzi] using this.2.1, by simpa [hzi] using this.2.2.1, ⟨x, hx, rfl⟩, by simpa [hzi] using this.2.2.2.2⟩
    · simpa [hzi] using this
  · have := h3 p hp
    unfold WFp at this ⊢
    simpa [kset_22] using this
  · have := h5 z h6 h7
    simpa [kset_22, kset_21] using this
theorem WF.caller {κ : aK} (h : WF κ) {i : Nat} {x : Int32} (hx : x = -4 ∨ (i < κ.1 ∧ ∃ p, p < 5 ∧ x = nI p)) : WF (kset κ 4 i x) := by
  obtain ⟨h1, h2, h3, h4, h5⟩ := h
  refine ⟨h1, fun z hz => ?_, fun p hp => ?_, h4, fun z h6 h7 => ?_⟩
  · have := h2 z hz
    unfold WFb at this ⊢
    simp only [kset_22]
    by_cases hzi : z = i
    · simpa [hzi] using ⟨by simpa [hzi] using this.1, by simpa [hzi] using this.2.1, by simpa [hzi] using this.2.2.1, by simpa [hzi] using this.2.2.2.1, hx.imp id (fun q => q.2)⟩
    · simpa [hzi] using this
  · have := h3 p hp
    unfold WFp at this ⊢
    simpa [kset_22] using this
  · have := h5 z h6 h7
    have h8 : (kset κ 4 i x).2.2 4 z = -4 := by
      rw [kset_22]
      by_cases hzi : z = i
      · rcases hx with hx | ⟨hx, -⟩
        · simp [hzi, hx]
        · subst hzi
          have h6' : κ.1 ≤ z := h6
          omega
      · simp [hzi, this.1]
    exact ⟨h8, this.2⟩
theorem WF.purse {κ : aK} (h : WF κ) {p x : Nat} (hx : x ≤ 999) : WF (kset κ 5 p (nI x)) := by
  obtain ⟨h1, h2, h3, h4, h5⟩ := h
  refine ⟨h1, fun z hz => ?_, fun q hq => ?_, h4, fun z h6 h7 => ?_⟩
  · have := h2 z hz
    unfold WFb at this ⊢
    simpa [kset_22] using this
  · have := h3 q hq
    unfold WFp at this ⊢
    simp only [kset_22]
    by_cases hqp : q = p
    · simpa [hqp] using ⟨⟨x, hx, rfl⟩, by simpa [hqp] using this.2⟩
    · simpa [hqp] using this
  · have := h5 z h6 h7
    simpa [kset_22, kset_21] using this
theorem WF.spot {κ : aK} (h : WF κ) {p x : Nat} (hx : x ≤ 15) : WF (kset κ 6 p (nI x)) := by
  obtain ⟨h1, h2, h3, h4, h5⟩ := h
  refine ⟨h1, fun z hz => ?_, fun q hq => ?_, h4, fun z h6 h7 => ?_⟩
  · have := h2 z hz
    unfold WFb at this ⊢
    simpa [kset_22] using this
  · have := h3 q hq
    unfold WFp at this ⊢
    simp only [kset_22]
    by_cases hqp : q = p
    · simpa [hqp] using ⟨by simpa [hqp] using this.1, ⟨x, hx, rfl⟩, by simpa [hqp] using this.2.2⟩
    · simpa [hqp] using this
  · have := h5 z h6 h7
    simpa [kset_22, kset_21] using this
theorem WF.speech {κ : aK} (h : WF κ) {p x : Nat} (hx : x ≤ 3) : WF (kset κ 7 p (nI x)) := by
  obtain ⟨h1, h2, h3, h4, h5⟩ := h
  refine ⟨h1, fun z hz => ?_, fun q hq => ?_, h4, fun z h6 h7 => ?_⟩
  · have := h2 z hz
    unfold WFb at this ⊢
    simpa [kset_22] using this
  · have := h3 q hq
    unfold WFp at this ⊢
    simp only [kset_22]
    by_cases hqp : q = p
    · simpa [hqp] using ⟨by simpa [hqp] using this.1, by simpa [hqp] using this.2.1, ⟨x, hx, rfl⟩, by simpa [hqp] using this.2.2.2⟩
    · simpa [hqp] using this
  · have := h5 z h6 h7
    simpa [kset_22, kset_21] using this
theorem WF.grief {κ : aK} (h : WF κ) {p x : Nat} (hx : x ≤ 99) : WF (kset κ 8 p (nI x)) := by
  obtain ⟨h1, h2, h3, h4, h5⟩ := h
  refine ⟨h1, fun z hz => ?_, fun q hq => ?_, h4, fun z h6 h7 => ?_⟩
  · have := h2 z hz
    unfold WFb at this ⊢
    simpa [kset_22] using this
  · have := h3 q hq
    unfold WFp at this ⊢
    simp only [kset_22]
    by_cases hqp : q = p
    · simpa [hqp] using ⟨by simpa [hqp] using this.1, by simpa [hqp] using this.2.1, by simpa [hqp] using this.2.2.1, ⟨x, hx, rfl⟩⟩
    · simpa [hqp] using this
  · have := h5 z h6 h7
    simpa [kset_22, kset_21] using this
theorem WF.int {κ : aK} (h : WF κ) {a : Nat} (ha : a ≠ 1) (x : Int32) : WF (kint κ a x) := by
  obtain ⟨h1, h2, h3, h4, h5⟩ := h
  have e : (kint κ a x).2.1 1 = κ.2.1 1 := by rw [kint_21]; simp [Ne.symm ha]
  refine ⟨h1, h2, h3, by rw [e]; exact h4, fun z h6 h7 => ?_⟩
  rw [e]
  exact h5 z h6 h7
def oneI (i : Nat) : Int32 := (1 : Int32) <<< (nI i &&& 31)
theorem b_nI {a : Nat} (ha : a < 512) {i : Nat} (h9 : 9 ≤ i) : bt (nI a) i = false := by
  rcases Nat.lt_or_ge i 32 with h | h
  · unfold bt
    have e : (nI a).toBitVec = BitVec.ofNat 32 a := rfl
    rw [e, BitVec.getLsbD_ofNat]
    have : a < 2 ^ i := Nat.lt_of_lt_of_le ha (Nat.pow_le_pow_right (by decide) h9 : 2 ^ 9 ≤ 2 ^ i)
    simp [Nat.testBit_lt_two_pow this]
  · exact b_big h
/-- a number whose bits from 9 on are off -/
theorem b_lt {x : Int32} (h : ∀ i, 9 ≤ i → i < 32 → bt x i = false) : ∃ a, a < 512 ∧ x = nI a := by
  refine ⟨x.toBitVec.toNat, ?_, ?_⟩
  · show x.toBitVec.toNat < 2 ^ 9
    refine Nat.lt_pow_two_of_testBit _ (fun i hi => ?_)
    rcases Nat.lt_or_ge i 32 with h1 | h1
    · exact h i hi h1
    · exact b_big h1
  · apply Int32.toBitVec_inj.mp
    show x.toBitVec = BitVec.ofNat 32 _
    rw [BitVec.ofNat_toNat, BitVec.setWidth_eq]
theorem bit_lt {a : Nat} (ha : a < 512) {i : Nat} (h9 : 9 ≤ i) (hi : i < 32) : bitB (nI a) (nI i) = false := by rw [bit_bt _ hi]; exact b_nI ha h9
/-- two numbers below 512 by their bits -/
theorem ext9 {a b : Nat} (ha : a < 512) (hb : b < 512) (h : ∀ i, i < 9 → bitB (nI a) (nI i) = bitB (nI b) (nI i)) : nI a = nI b := by
  apply b_ext
  intro i hi
  rcases Nat.lt_or_ge i 9 with h1 | h1
  · have := h i h1
    rwa [bit_bt _ hi, bit_bt _ hi] at this
  · rw [b_nI ha h1, b_nI hb h1]
theorem bit_or (x : Int32) {i k : Nat} (hi : i < 32) (hk : k < 32) : bitB (x ||| oneI k) (nI i) = (bitB x (nI i) || decide (i = k)) := by
  rw [bit_bt _ hi, bit_bt _ hi, b_or]
  unfold oneI
  rw [b_one k hk hi]
theorem bit_one {i k : Nat} (hi : i < 32) (hk : k < 32) : bitB (oneI k) (nI i) = decide (i = k) := by
  rw [bit_bt _ hi]
  exact b_one k hk hi
theorem bit_0 {i : Nat} (hi : i < 32) : bitB 0 (nI i) = false := by rw [bit_bt _ hi]; exact b_0 i
theorem bit_and (x y : Int32) {i : Nat} (hi : i < 32) : bitB (x &&& y) (nI i) = (bitB x (nI i) && bitB y (nI i)) := by
  rw [bit_bt _ hi, bit_bt _ hi, bit_bt _ hi, b_and]
theorem bit_not (x : Int32) {i : Nat} (hi : i < 32) : bitB (x ^^^ (-1)) (nI i) = !bitB x (nI i) := by
  rw [bit_bt _ hi, bit_bt _ hi, b_xor, b_m1 i hi]
  simp
/-! masks -/
def mskF (P : Nat → Bool) (i : Nat) (m : Int32) : Int32 := if P i = true then m ||| oneI i else m
def mskK (P : Nat → Bool) (n : Nat) : Int32 := itr (mskF P) 0 n 0
theorem bit_itr (P : Nat → Bool) : ∀ (n a : Nat) (m : Int32) (i : Nat), i < 32 → a + n ≤ 32 → bitB (itr (mskF P) a n m) (nI i) = (bitB m (nI i) || (decide (a ≤ i ∧ i < a + n) && P i))
  | 0, a, m, i, _, _ => by
    show bitB m (nI i) = _
    rw [decide_eq_false (show ¬ (a ≤ i ∧ i < a + 0) by omega), Bool.false_and, Bool.or_false]
  | n + 1, a, m, i, hi, hn => by
    show bitB (itr (mskF P) (a + 1) n (mskF P a m)) (nI i) = _
    rw [bit_itr P n (a + 1) _ i hi (by omega)]
    unfold mskF
    by_cases hP : P a = true
    · rw [if_pos hP, bit_or _ hi (by omega)]
      by_cases hia : i = a
      · subst hia
        have h1 : i ≤ i ∧ i < i + (n + 1) := by omega
        simp [h1, hP]
      · have h2 : (a + 1 ≤ i ∧ i < a + 1 + n) ↔ (a ≤ i ∧ i < a + (n + 1)) := by omega
        simp [hia, h2]
    · rw [if_neg hP]
      by_cases hia : i = a
      · subst hia
        simp [hP]
      · have h2 : (a + 1 ≤ i ∧ i < a + 1 + n) ↔ (a ≤ i ∧ i < a + (n + 1)) := by omega
        simp [h2]
theorem bit_msk (P : Nat → Bool) {n i : Nat} (hn : n ≤ 32) (hi : i < 32) : bitB (mskK P n) (nI i) = (decide (i < n) && P i) := by
  unfold mskK
  rw [bit_itr P n 0 0 i hi (by omega), bit_0 hi]
  simp
theorem msk_lt (P : Nat → Bool) {n : Nat} (hn : n ≤ 9) : ∃ a, a < 512 ∧ mskK P n = nI a := by
  refine b_lt (fun i h1 h2 => ?_)
  rw [← bit_bt _ h2, bit_msk P (by omega) h2]
  have : ¬ i < n := by omega
  simp [this]
theorem msk_ext {P Q : Nat → Bool} {n m : Nat} (hn : n ≤ 9) (hm : m ≤ 9) (h : ∀ i, i < 9 → (decide (i < n) && P i) = (decide (i < m) && Q i)) : mskK P n = mskK Q m := by
  obtain ⟨a, ha, ea⟩ := msk_lt P hn
  obtain ⟨b, hb, eb⟩ := msk_lt Q hm
  rw [ea, eb]
  refine ext9 ha hb (fun i hi => ?_)
  rw [← ea, ← eb, bit_msk P (by omega) (by omega), bit_msk Q (by omega) (by omega)]
  exact h i hi
/-- the first i of a, a + 1 .. with Q -/
def fndK (Q : Nat → Bool) : Nat → Nat → Option Nat
  | _, 0 => none
  | i, m + 1 => if Q i = true then some i else fndK Q (i + 1) m
theorem fnd_lt {Q : Nat → Bool} : ∀ {m a i : Nat}, fndK Q a m = some i → a ≤ i ∧ i < a + m ∧ Q i = true
  | 0, a, i, h => by cases h
  | m + 1, a, i, h => by
    unfold fndK at h
    by_cases hQ : Q a = true
    · rw [if_pos hQ] at h
      cases h
      exact ⟨Nat.le_refl _, by omega, hQ⟩
    · rw [if_neg hQ] at h
      obtain ⟨h1, h2, h3⟩ := fnd_lt h
      exact ⟨by omega, by omega, h3⟩
def calledK (κ : aK) (p : Int32) : Int32 := mskK (fun i => decide (κ.2.2 4 i = p)) 9
def calledAnyK (κ : aK) : Int32 := mskK (fun i => !decide (κ.2.2 4 i = -4)) 9
def metB (κ : aK) (x : Int32) (i : Nat) : Bool := bitB (κ.2.1 1) (nI i) && (decide (κ.2.2 4 i = -4) && decide (κ.2.2 2 i = x))
theorem p_calledBy {w : aW} {j : Nat} (hj : j + 9 < 75) (κ : aK) (p : Int32) : f_X0_calledBy j p (putM w j κ) = some (calledK κ p, putM w j κ) := by
  unfold f_X0_calledBy
  refine for3 (fun m : Int32 => m) (fun _ => putM w j κ) (c_X0_calledBy_4 j p) 9 (mskF (fun i => decide (κ.2.2 4 i = p))) (fun m => some (m, putM w j κ)) (fun _ _ => True) ?_ (fun _ _ _ _ => trivial) ?_ 9 0 0 a_fuel rfl (by decide) trivial
  · intro k i s hi _
    simp only [c_X0_calledBy_4, le_9 hi, gI_M0 hj, gI_M1 hj, gI_M2 hj, gI_M3 hj, gR_M4 hj, gR_M5 hj, gR_M6 hj, gR_M7 hj, gR_M8 hj, gR_M9 hj, gR_M10 hj, gR_M11 hj, gR_M12 hj, cV_M hj, bk_some, bind_some', zb_0, zb_1, zb_or, cc_or, kset_1, kset_21, kint_1, kint_21, kint_22, gA_M4 hj κ hi, if_true, if_false, not_true_eq_false, not_false_eq_true, Bool.false_eq_true, Bool.true_eq_false, reduceIte, ite_true, ite_false, nI_1]
    unfold mskF oneI
    by_cases h : κ.2.2 4 i = p <;> simp [h]
  · intro k s _
    simp only [c_X0_calledBy_4]
    rfl
theorem p_calledByAnybody {w : aW} {j : Nat} (hj : j + 9 < 75) (κ : aK) : f_X0_calledByAnybody j (putM w j κ) = some (calledAnyK κ, putM w j κ) := by
  unfold f_X0_calledByAnybody
  refine for3 (fun m : Int32 => m) (fun _ => putM w j κ) (c_X0_calledByAnybody_4 j) 9 (mskF (fun i => !decide (κ.2.2 4 i = -4))) (fun m => some (m, putM w j κ)) (fun _ _ => True) ?_ (fun _ _ _ _ => trivial) ?_ 9 0 0 a_fuel rfl (by decide) trivial
  · intro k i s hi _
    simp only [c_X0_calledByAnybody_4, le_9 hi, gI_M0 hj, gI_M1 hj, gI_M2 hj, gI_M3 hj, gR_M4 hj, gR_M5 hj, gR_M6 hj, gR_M7 hj, gR_M8 hj, gR_M9 hj, gR_M10 hj, gR_M11 hj, gR_M12 hj, cV_M hj, bk_some, bind_some', zb_0, zb_1, zb_or, cc_or, kset_1, kset_21, kint_1, kint_21, kint_22, gA_M4 hj κ hi, if_true, if_false, not_true_eq_false, not_false_eq_true, Bool.false_eq_true, Bool.true_eq_false, reduceIte, ite_true, ite_false, nI_1]
    unfold mskF oneI
    by_cases h : κ.2.2 4 i = -4 <;> simp [h]
  · intro k s _
    simp only [c_X0_calledByAnybody_4]
    rfl
theorem p_freeOnesAt {w : aW} {j : Nat} (hj : j + 9 < 75) (κ : aK) (x : Int32) : f_X0_freeOnesAt j x (putM w j κ) = some (mskK (metB κ x) 9, putM w j κ) := by
  unfold f_X0_freeOnesAt
  refine for3 (fun m : Int32 => m) (fun _ => putM w j κ) (c_X0_freeOnesAt_4 j x) 9 (mskF (metB κ x)) (fun m => some (m, putM w j κ)) (fun _ _ => True) ?_ (fun _ _ _ _ => trivial) ?_ 9 0 0 a_fuel rfl (by decide) trivial
  · intro k i s hi _
    simp only [c_X0_freeOnesAt_4, le_9 hi, gI_M0 hj, gI_M1 hj, gI_M2 hj, gI_M3 hj, gR_M4 hj, gR_M5 hj, gR_M6 hj, gR_M7 hj, gR_M8 hj, gR_M9 hj, gR_M10 hj, gR_M11 hj, gR_M12 hj, cV_M hj, bk_some, bind_some', zb_0, zb_1, zb_or, cc_or, kset_1, kset_21, kint_1, kint_21, kint_22, p_isAlive hj, gA_M4 hj κ hi, gA_M2 hj κ hi, if_true, if_false, not_true_eq_false, not_false_eq_true, Bool.false_eq_true, Bool.true_eq_false, reduceIte, ite_true, ite_false, nI_1]
    unfold mskF oneI metB
    by_cases h1 : bitB (κ.2.1 1) (nI i) = true
    · by_cases h2 : κ.2.2 4 i = -4
      · by_cases h3 : κ.2.2 2 i = x <;> simp [h1, h2, h3]
      · simp [h1, h2]
    · simp [h1]
  · intro k s _
    simp only [c_X0_freeOnesAt_4]
    rfl
theorem fnd_s (Q : Nat → Bool) (i m : Nat) : fndK Q i (m + 1) = if Q i = true then some i else fndK Q (i + 1) m := rfl
def optB (o : Option Nat) : Int32 := match o with
  | none => 0
  | some i => oneI i
theorem p_hungryOneOf {w : aW} {j : Nat} (hj : j + 9 < 75) (κ : aK) (m : Int32) : f_X0_hungryOneOf j m (putM w j κ) = some (optB (fndK (fun i => bitB m (nI i) && !decide (κ.2.2 3 i < 5)) 0 9), putM w j κ) := by
  unfold f_X0_hungryOneOf
  have key : ∀ m' i n, i + m' = 9 → m' < n → loop2 (c_X0_hungryOneOf_2 j m) n (nI i) (putM w j κ) = some (optB (fndK (fun i => bitB m (nI i) && !decide (κ.2.2 3 i < 5)) i m'), putM w j κ) := by
    intro m'
    induction m' with
    | zero =>
      intro i n hi hn
      have : i = 9 := by omega
      subst this
      cases n with
      | zero => omega
      | succ n =>
        show c_X0_hungryOneOf_2 j m _ (nI 9) (putM w j κ) = _
        simp only [c_X0_hungryOneOf_2]
        rfl
    | succ m' ih =>
      intro i n hi hn
      cases n with
      | zero => omega
      | succ n =>
        show c_X0_hungryOneOf_2 j m (loop2 (c_X0_hungryOneOf_2 j m) n) (nI i) (putM w j κ) = _
        simp only [c_X0_hungryOneOf_2, le_9 (show i < 9 by omega), gI_M0 hj, gI_M1 hj, gI_M2 hj, gI_M3 hj, gR_M4 hj, gR_M5 hj, gR_M6 hj, gR_M7 hj, gR_M8 hj, gR_M9 hj, gR_M10 hj, gR_M11 hj, gR_M12 hj, cV_M hj, bk_some, bind_some', zb_0, zb_1, zb_or, cc_or, kset_1, kset_21, kint_1, kint_21, kint_22, p_has, gA_M3 hj κ (show i < 9 by omega), if_true, if_false, not_true_eq_false, not_false_eq_true, Bool.false_eq_true, Bool.true_eq_false, reduceIte, ite_true, ite_false, nI_1]
        rw [ih (i + 1) n (by omega) (by omega)]
        rw [fnd_s]
        by_cases h1 : bitB m (nI i) = true
        · by_cases h2 : κ.2.2 3 i < 5
          · simp [h1, h2]
          · simp [h1, h2, optB, oneI]
        · simp [h1]
  exact key 9 0 a_fuel rfl (by decide)
def strF (κ : aK) (Q : Nat → Bool) (i : Nat) (s : Int32 × Option Nat) : Int32 × Option Nat := if (Q i && !decide (workI (κ.2.2 0 i) (κ.2.2 1 i) ≤ s.1)) = true then (workI (κ.2.2 0 i) (κ.2.2 1 i), some i) else s
theorem p_strongOneOf {w : aW} {j : Nat} (hj : j + 9 < 75) (κ : aK) (m : Int32) : f_X0_strongOneOf j m (putM w j κ) = some (optB (itr (strF κ (fun i => bitB m (nI i))) 0 9 (3, none)).2, putM w j κ) := by
  unfold f_X0_strongOneOf
  refine for4 (fun s : Int32 × Option Nat => s.1) (fun s => optB s.2) (fun _ => putM w j κ) (c_X0_strongOneOf_7 j m) 9 (strF κ (fun i => bitB m (nI i))) (fun s => some (optB s.2, putM w j κ)) (fun _ _ => True) ?_ (fun _ _ _ _ => trivial) ?_ 9 0 (3, none) a_fuel rfl (by decide) trivial
  · intro k i s hi _
    simp only [c_X0_strongOneOf_7, le_9 hi, gI_M0 hj, gI_M1 hj, gI_M2 hj, gI_M3 hj, gR_M4 hj, gR_M5 hj, gR_M6 hj, gR_M7 hj, gR_M8 hj, gR_M9 hj, gR_M10 hj, gR_M11 hj, gR_M12 hj, cV_M hj, bk_some, bind_some', zb_0, zb_1, zb_or, cc_or, kset_1, kset_21, kint_1, kint_21, kint_22, p_has, p_workOf, gA_M0 hj κ hi, gA_M1 hj κ hi, if_true, if_false, not_true_eq_false, not_false_eq_true, Bool.false_eq_true, Bool.true_eq_false, reduceIte, ite_true, ite_false, nI_1]
    unfold strF
    by_cases h1 : bitB m (nI i) = true
    · by_cases h2 : workI (κ.2.2 0 i) (κ.2.2 1 i) ≤ s.1 <;> simp [h1, h2, optB, oneI]
    · simp [h1]
  · intro k s _
    simp only [c_X0_strongOneOf_7]
    rfl
def giveF (P : Nat → Bool) (x : Int32) (i : Nat) (κ : aK) : aK := if P i = true then kset κ 4 i x else κ
theorem p_giveAll {w : aW} {j : Nat} (hj : j + 9 < 75) (κ : aK) (m x : Int32) : f_X0_giveAll j m x (putM w j κ) = some ((), putM w j (itr (giveF (fun i => bitB m (nI i)) x) 0 9 κ)) := by
  unfold f_X0_giveAll
  refine for2 (fun κ : aK => putM w j κ) (c_X0_giveAll_2 j m x) 9 (giveF (fun i => bitB m (nI i)) x) (fun κ => some ((), putM w j κ)) (fun _ _ => True) ?_ (fun _ _ _ _ => trivial) ?_ 9 0 κ a_fuel rfl (by decide) trivial
  · intro k i κ hi _
    simp only [c_X0_giveAll_2, le_9 hi, gI_M0 hj, gI_M1 hj, gI_M2 hj, gI_M3 hj, gR_M4 hj, gR_M5 hj, gR_M6 hj, gR_M7 hj, gR_M8 hj, gR_M9 hj, gR_M10 hj, gR_M11 hj, gR_M12 hj, cV_M hj, bk_some, bind_some', zb_0, zb_1, zb_or, cc_or, kset_1, kset_21, kint_1, kint_21, kint_22, p_has, sA_M4 hj κ hi, if_true, if_false, not_true_eq_false, not_false_eq_true, Bool.false_eq_true, Bool.true_eq_false, reduceIte, ite_true, ite_false, nI_1]
    unfold giveF
    by_cases h1 : bitB m (nI i) = true <;> simp [h1]
  · intro k s _
    simp only [c_X0_giveAll_2]
    rfl
theorem itr_same {σ : Type} {F : Nat → σ → σ} : ∀ (n a : Nat) (s : σ), (∀ i, a ≤ i → i < a + n → F i s = s) → itr F a n s = s
  | 0, _, _, _ => rfl
  | n + 1, a, s, h => by
    show itr F (a + 1) n (F a s) = s
    rw [h a (Nat.le_refl _) (by omega)]
    exact itr_same n (a + 1) s (fun i h1 h2 => h i (by omega) (by omega))
theorem itr_add {σ : Type} {F : Nat → σ → σ} : ∀ (n m a : Nat) (s : σ), itr F a (n + m) s = itr F (a + n) m (itr F a n s)
  | 0, m, a, s => by rw [Nat.zero_add]; rfl
  | n + 1, m, a, s => by
    rw [show n + 1 + m = (n + m) + 1 by omega]
    show itr F (a + 1) (n + m) (F a s) = itr F (a + (n + 1)) m (itr F (a + 1) n (F a s))
    rw [itr_add n m (a + 1) (F a s), show a + 1 + n = a + (n + 1) by omega]
theorem itr_cong {σ : Type} {F G : Nat → σ → σ} : ∀ (n a : Nat) (s : σ), (∀ i s, a ≤ i → i < a + n → F i s = G i s) → itr F a n s = itr G a n s
  | 0, _, _, _ => rfl
  | n + 1, a, s, h => by
    show itr F (a + 1) n (F a s) = itr G (a + 1) n (G a s)
    rw [h a s (Nat.le_refl _) (by omega)]
    exact itr_cong n (a + 1) _ (fun i s h1 h2 => h i s (by omega) (by omega))
theorem itr_inv {σ : Type} {F : Nat → σ → σ} {I : σ → Prop} : ∀ (n a : Nat) (s : σ), I s → (∀ i s, a ≤ i → i < a + n → I s → I (F i s)) → I (itr F a n s)
  | 0, _, _, h, _ => h
  | n + 1, a, s, h, hs => itr_inv n (a + 1) (F a s) (hs a s (Nat.le_refl _) (by omega) h) (fun i s h1 h2 => hs i s (by omega) (by omega))
def optS (κ : aK) (o : Option Nat) (x : Int32) : aK := match o with
  | none => κ
  | some i => kset κ 4 i x
/-- giving a set of one, of none -/
theorem give_opt (κ : aK) (o : Option Nat) (x : Int32) (h : ∀ i, o = some i → i < 9) : itr (giveF (fun i => bitB (optB o) (nI i)) x) 0 9 κ = optS κ o x := by
  cases o with
  | none =>
    refine itr_same 9 0 κ (fun i _ hi => ?_)
    show (if bitB 0 (nI i) = true then kset κ 4 i x else κ) = κ
    rw [bit_0 (show i < 32 by omega)]
    rfl
  | some k =>
    show _ = kset κ 4 k x
    have hk := h k rfl
    have hne : ∀ i (κ : aK), i < 9 → i ≠ k → giveF (fun i => bitB (optB (some k)) (nI i)) x i κ = κ := by
      intro i κ hi hik
      show (if bitB (oneI k) (nI i) = true then kset κ 4 i x else κ) = κ
      rw [bit_one (show i < 32 by omega) (show k < 32 by omega)]
      simp [hik]
    have hE : ∀ κ : aK, giveF (fun i => bitB (optB (some k)) (nI i)) x k κ = kset κ 4 k x := by
      intro κ
      show (if bitB (oneI k) (nI k) = true then kset κ 4 k x else κ) = _
      rw [bit_one (show k < 32 by omega) (show k < 32 by omega)]
      simp
    rw [show 9 = k + (1 + (8 - k)) by omega, itr_add k, itr_same k 0 κ (fun i _ h2 => hne i κ (by omega) (by omega)), Nat.zero_add, itr_add 1]
    have h1 : itr (giveF (fun i => bitB (optB (some k)) (nI i)) x) k 1 κ = kset κ 4 k x := hE κ
    rw [h1]
    exact itr_same _ _ _ (fun i h1 h2 => hne i _ (by omega) (by omega))
