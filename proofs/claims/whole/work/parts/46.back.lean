/-! PURE: put back -/
/-- what stays while a row is put back -/
def Bk (r : Nat) (σ0 : aR) (n : Nat) (σ : aR) : Prop := (∀ c, (c < 51 ∨ 59 < c) → σ.2.1 c = σ0.2.1 c) ∧ (∀ z, z ≠ 0 → z ≠ 6 → z ≠ 11 → z ≠ 30 → z ≠ 31 → σ.1 z = σ0.1 z) ∧ σ.2.2.1 = σ0.2.2.1 ∧ σ.1 31 = 0 ∧ σ.2.2.2.2 = some r ∧ σ.1 30 = nI n ∧ ∀ c, 56 ≤ c → ∀ z, 5 ≤ z → σ.2.1 c z = σ0.2.1 c z
theorem nb_21 (σ : aR) (r n c b c' i : Nat) : (nb σ r n c b).2.1 c' i = if c' = c ∧ i = b then σ.2.1 r n else σ.2.1 c' i := by
  unfold nb
  rw [rset_21, rint_2]
theorem Bk.go {r : Nat} (hr : kin r) {σ0 σ : aR} {n : Nat} (h : Bk r σ0 n σ) {c : Nat} (h1 : 51 ≤ c) (h2 : c ≤ 59) (b : Nat) (hb : 56 ≤ c → b < 5) : Bk r σ0 (n + 1) (nb σ r n c b) := by
  refine ⟨fun c' hc => ?_, fun z q1 q2 q3 q4 q5 => ?_, h.2.2.1, ?_, h.2.2.2.2.1, ?_, fun c' hc z hz => ?_⟩
  · rw [← h.1 c' hc]
    funext i
    rw [nb_21]
    have : c' ≠ c := by omega
    simp [this]
  · unfold nb
    rw [rset_1, rint_1, if_neg q4]
    exact h.2.1 z q1 q2 q3 q4 q5
  · unfold nb
    rw [rset_1, rint_1, if_neg (by decide)]
    exact h.2.2.2.1
  · unfold nb
    rw [rset_1, rint_1, if_pos rfl]
  · rw [nb_21, if_neg, h.2.2.2.2.2.2 c' hc z hz]
    rintro ⟨rfl, rfl⟩
    have := hb hc
    omega
theorem kin_out {r : Nat} (hr : kin r) : r < 51 ∨ 59 < r := by rcases hr with rfl | rfl <;> decide
def gotB (r : Nat) (σ0 : aR) (i : Nat) (σ : aR) : Prop := σ.1 0 = σ0.2.1 r 0 ∧ σ.1 6 = σ0.2.1 r 1 ∧ σ.1 11 = σ0.2.1 r 2 ∧ ∀ b, b < i → ∀ k, k < 5 → σ.2.1 (51 + k) b = σ0.2.1 r (3 + 5 * b + k)
def gotP (r : Nat) (σ0 : aR) (i : Nat) (σ : aR) : Prop := ∀ p, p < i → ∀ k, k < 4 → σ.2.1 (56 + k) p = σ0.2.1 r (48 + 4 * p + k)
theorem nb_1 {σ : aR} {r n c b z : Nat} (hz : z ≠ 30) : (nb σ r n c b).1 z = σ.1 z := by
  unfold nb
  rw [rset_1, rint_1, if_neg hz]
theorem carryB_P {r : Nat} (hr : kin r) (w : aW) (σ0 : aR) (a2 : Int32) {σ : aR} (h : Bk r σ0 48 σ) (hb : gotB r σ0 9 σ) : ∃ σ', Bk r σ0 68 σ' ∧ gotB r σ0 9 σ' ∧ gotP r σ0 5 σ' ∧ loop2 (c_X4_carryAll_147 50 r a2) a_fuel (nI 0) (putR w σ) = some ((), putR w σ') := by
  have ho := kin_out hr
  obtain ⟨σ', ⟨h1, h2, h3⟩, e⟩ := for2e (fun σ : aR => putR w σ) (c_X4_carryAll_147 50 r a2) 5 (fun σ => some ((), putR w σ)) (fun i σ => Bk r σ0 (48 + 4 * i) σ ∧ gotB r σ0 9 σ ∧ gotP r σ0 i σ)
    (fun k i σ hi hσ => by
      obtain ⟨hT, hB, hP⟩ := hσ
      have hT1 := hT.go hr (c := 56) (by decide) (by decide) i (fun _ => hi)
      have hT2 := hT1.go hr (c := 57) (by decide) (by decide) i (fun _ => hi)
      have hT3 := hT2.go hr (c := 58) (by decide) (by decide) i (fun _ => hi)
      have hT4 := hT3.go hr (c := 59) (by decide) (by decide) i (fun _ => hi)
      refine ⟨_, ⟨by rw [show 48 + 4 * (i + 1) = 48 + 4 * i + 1 + 1 + 1 + 1 by omega]; exact hT4, ?_, ?_⟩, ?_⟩
      · refine ⟨?_, ?_, ?_, fun b hb k hk => ?_⟩
        · simp only [nb_1 (show (0 : Nat) ≠ 30 by decide)]
          exact hB.1
        · simp only [nb_1 (show (6 : Nat) ≠ 30 by decide)]
          exact hB.2.1
        · simp only [nb_1 (show (11 : Nat) ≠ 30 by decide)]
          exact hB.2.2.1
        · simp only [nb_21]
          rw [if_neg (by omega), if_neg (by omega), if_neg (by omega), if_neg (by omega)]
          exact hB.2.2.2 b hb k hk
      · intro p hp k hk
        rw [nb_21, hT3.1 r ho, nb_21, hT2.1 r ho, nb_21, hT1.1 r ho, nb_21, hT.1 r ho]
        by_cases hpi : p = i
        · subst hpi
          rcases (show k = 0 ∨ k = 1 ∨ k = 2 ∨ k = 3 by omega) with rfl | rfl | rfl | rfl <;> simp
        · rw [if_neg (by omega), if_neg (by omega), if_neg (by omega), if_neg (by omega)]
          exact hP p (by omega) k hk
      · simp only [c_X4_carryAll_147, le_5 hi, gR_R7, gR_R8, gR_R9, gR_R10, bind_some', if_false]
        rw [stepB hr w σ (show 48 + 4 * i < 68 by omega) hT.2.2.2.1 hT.2.2.2.2.1 hT.2.2.2.2.2.1 (fun σ => gA_R56 w σ hi) (fun σ x => sA_R56 w σ hi x)]
        simp only [gR_R7, gR_R8, gR_R9, gR_R10, bind_some']
        rw [stepB hr w _ (show 48 + 4 * i + 1 < 68 by omega) hT1.2.2.2.1 hT1.2.2.2.2.1 hT1.2.2.2.2.2.1 (fun σ => gA_R57 w σ hi) (fun σ x => sA_R57 w σ hi x)]
        simp only [gR_R7, gR_R8, gR_R9, gR_R10, bind_some']
        rw [stepB hr w _ (show 48 + 4 * i + 1 + 1 < 68 by omega) hT2.2.2.2.1 hT2.2.2.2.2.1 hT2.2.2.2.2.2.1 (fun σ => gA_R58 w σ hi) (fun σ x => sA_R58 w σ hi x)]
        simp only [gR_R7, gR_R8, gR_R9, gR_R10, bind_some']
        rw [stepB hr w _ (show 48 + 4 * i + 1 + 1 + 1 < 68 by omega) hT3.2.2.2.1 hT3.2.2.2.2.1 hT3.2.2.2.2.2.1 (fun σ => gA_R59 w σ hi) (fun σ x => sA_R59 w σ hi x), nI_1])
    (fun k σ _ => by simp only [c_X4_carryAll_147]; rfl) 5 0 σ a_fuel rfl (by decide) ⟨h, hb, fun p hp => by omega⟩
  exact ⟨σ', h1, h2, h3, e⟩
theorem carryB_B {r : Nat} (hr : kin r) (w : aW) (σ0 : aR) (a2 : Int32) {σ : aR} (h : Bk r σ0 3 σ) (hb : gotB r σ0 0 σ) : ∃ σ', Bk r σ0 68 σ' ∧ gotB r σ0 9 σ' ∧ gotP r σ0 5 σ' ∧ loop2 (c_X4_carryAll_53 50 r a2) a_fuel (nI 0) (putR w σ) = some ((), putR w σ') := by
  have ho := kin_out hr
  obtain ⟨σ', ⟨h1, h2⟩, e⟩ := for2e (fun σ : aR => putR w σ) (c_X4_carryAll_53 50 r a2) 9 (fun σ => loop2 (c_X4_carryAll_147 50 r a2) a_fuel (nI 0) (putR w σ)) (fun i σ => Bk r σ0 (3 + 5 * i) σ ∧ gotB r σ0 i σ)
    (fun k i σ hi hσ => by
      obtain ⟨hT, hB⟩ := hσ
      have hT1 := hT.go hr (c := 51) (by decide) (by decide) i (fun h => absurd h (by decide))
      have hT2 := hT1.go hr (c := 52) (by decide) (by decide) i (fun h => absurd h (by decide))
      have hT3 := hT2.go hr (c := 53) (by decide) (by decide) i (fun h => absurd h (by decide))
      have hT4 := hT3.go hr (c := 54) (by decide) (by decide) i (fun h => absurd h (by decide))
      have hT5 := hT4.go hr (c := 55) (by decide) (by decide) i (fun h => absurd h (by decide))
      refine ⟨_, ⟨by rw [show 3 + 5 * (i + 1) = 3 + 5 * i + 1 + 1 + 1 + 1 + 1 by omega]; exact hT5, ?_⟩, ?_⟩
      · refine ⟨?_, ?_, ?_, fun b hb k hk => ?_⟩
        · simp only [nb_1 (show (0 : Nat) ≠ 30 by decide)]
          exact hB.1
        · simp only [nb_1 (show (6 : Nat) ≠ 30 by decide)]
          exact hB.2.1
        · simp only [nb_1 (show (11 : Nat) ≠ 30 by decide)]
          exact hB.2.2.1
        · rw [nb_21, hT4.1 r ho, nb_21, hT3.1 r ho, nb_21, hT2.1 r ho, nb_21, hT1.1 r ho, nb_21, hT.1 r ho]
          by_cases hpi : b = i
          · subst hpi
            rcases (show k = 0 ∨ k = 1 ∨ k = 2 ∨ k = 3 ∨ k = 4 by omega) with rfl | rfl | rfl | rfl | rfl <;> simp
          · rw [if_neg (by omega), if_neg (by omega), if_neg (by omega), if_neg (by omega), if_neg (by omega)]
            exact hB.2.2.2 b (by omega) k hk
      · simp only [c_X4_carryAll_53, le_9 hi, gR_R1, gR_R2, gR_R3, gR_R4, gR_R5, bind_some', if_false]
        rw [stepB hr w σ (show 3 + 5 * i < 68 by omega) hT.2.2.2.1 hT.2.2.2.2.1 hT.2.2.2.2.2.1 (fun σ => gA_R51 w σ hi) (fun σ x => sA_R51 w σ hi x)]
        simp only [gR_R1, gR_R2, gR_R3, gR_R4, gR_R5, bind_some']
        rw [stepB hr w _ (show 3 + 5 * i + 1 < 68 by omega) hT1.2.2.2.1 hT1.2.2.2.2.1 hT1.2.2.2.2.2.1 (fun σ => gA_R52 w σ hi) (fun σ x => sA_R52 w σ hi x)]
        simp only [gR_R1, gR_R2, gR_R3, gR_R4, gR_R5, bind_some']
        rw [stepB hr w _ (show 3 + 5 * i + 1 + 1 < 68 by omega) hT2.2.2.2.1 hT2.2.2.2.2.1 hT2.2.2.2.2.2.1 (fun σ => gA_R53 w σ hi) (fun σ x => sA_R53 w σ hi x)]
        simp only [gR_R1, gR_R2, gR_R3, gR_R4, gR_R5, bind_some']
        rw [stepB hr w _ (show 3 + 5 * i + 1 + 1 + 1 < 68 by omega) hT3.2.2.2.1 hT3.2.2.2.2.1 hT3.2.2.2.2.2.1 (fun σ => gA_R54 w σ hi) (fun σ x => sA_R54 w σ hi x)]
        simp only [gR_R1, gR_R2, gR_R3, gR_R4, gR_R5, bind_some']
        rw [stepB hr w _ (show 3 + 5 * i + 1 + 1 + 1 + 1 < 68 by omega) hT4.2.2.2.1 hT4.2.2.2.2.1 hT4.2.2.2.2.2.1 (fun σ => gA_R55 w σ hi) (fun σ x => sA_R55 w σ hi x), nI_1])
    (fun k σ _ => by simp only [c_X4_carryAll_53]; rfl) 9 0 σ a_fuel rfl (by decide) ⟨h, hb⟩
  obtain ⟨σ2, g1, g2, g3, e2⟩ := carryB_P hr w σ0 a2 h1 h2
  exact ⟨σ2, g1, g2, g3, by rw [e]; exact e2⟩
theorem carryAll_back {r : Nat} (hr : kin r) (w : aW) (σ : aR) : ∃ σ', Bk r σ 68 σ' ∧ gotB r σ 9 σ' ∧ gotP r σ 5 σ' ∧ f_X4_carryAll 50 r 0 (putR w σ) = some ((), putR w σ') := by
  have h0 : Bk r σ 0 (rint (rint (rkin σ r) 31 0) 30 (nI 0)) := ⟨fun _ _ => rfl, fun z _ _ _ h1 h2 => by rw [rint_1, if_neg h1, rint_1, if_neg h2]; rfl, rfl, by rw [rint_1, if_neg (by decide), rint_1, if_pos rfl], rfl, by rw [rint_1, if_pos rfl], fun _ _ _ _ => rfl⟩
  have tk : ∀ (n : Nat) (τ : aR) (c : Nat) (x : Int32), c = 0 ∨ c = 6 ∨ c = 11 → Bk r σ n τ → Bk r σ (n + 1) (rint (rint τ 30 (nI (n + 1))) c x) := fun n τ c x hc h =>
    ⟨h.1, fun z q1 q2 q3 q4 q5 => by rw [rint_1, if_neg (by omega), rint_1, if_neg q4]; exact h.2.1 z q1 q2 q3 q4 q5, h.2.2.1, by rw [rint_1, if_neg (by omega), rint_1, if_neg (by decide)]; exact h.2.2.2.1, h.2.2.2.2.1, by rw [rint_1, if_neg (by omega), rint_1, if_pos rfl], h.2.2.2.2.2.2⟩
  have h1 := tk 0 _ 0 (σ.2.1 r 0) (by decide) h0
  have h2 := tk 1 _ 6 (σ.2.1 r 1) (by decide) h1
  have h3 := tk 2 _ 11 (σ.2.1 r 2) (by decide) h2
  obtain ⟨σ', g1, g2, g3, e⟩ := carryB_B hr w σ 0 h3 ⟨by simp only [rint_1]; simp, by simp only [rint_1]; simp, by simp only [rint_1]; simp, fun b hb => by omega⟩
  refine ⟨σ', g1, g2, g3, ?_⟩
  unfold f_X4_carryAll
  rw [sF_R32, bind_some', if_neg (by decide), sF_R31, bind_some', sF_R30, bind_some', gI_R0, bind_some', cV_R, show (rint (rint (rkin σ r) 31 0) 30 (0 : Int32)) = rint (rint (rkin σ r) 31 0) 30 (nI 0) from rfl]
  have c0 : ∀ v, f_X4_carry 50 v (putR w (rint (rint (rkin σ r) 31 0) 30 (nI 0))) = some (σ.2.1 r 0, putR w (rint (rint (rint (rkin σ r) 31 0) 30 (nI 0)) 30 (nI (0 + 1)))) := fun v => carry_back hr w _ (show 0 < 68 by decide) h0.2.2.2.1 h0.2.2.2.2.1 h0.2.2.2.2.2.1 v
  rw [c0, bk_some, sF_R0, bind_some', gI_R6, bind_some', cV_R]
  have c1 : ∀ v, f_X4_carry 50 v (putR w (rint (rint (rint (rint (rkin σ r) 31 0) 30 (nI 0)) 30 (nI (0 + 1))) 0 (σ.2.1 r 0))) = some (σ.2.1 r 1, putR w (rint (rint (rint (rint (rint (rkin σ r) 31 0) 30 (nI 0)) 30 (nI (0 + 1))) 0 (σ.2.1 r 0)) 30 (nI (1 + 1)))) := fun v => carry_back hr w _ (show 1 < 68 by decide) h1.2.2.2.1 h1.2.2.2.2.1 h1.2.2.2.2.2.1 v
  rw [c1, bk_some, sF_R6, bind_some', gI_R11, bind_some', cV_R]
  have c2 : ∀ v, f_X4_carry 50 v (putR w (rint (rint (rint (rint (rint (rint (rkin σ r) 31 0) 30 (nI 0)) 30 (nI (0 + 1))) 0 (σ.2.1 r 0)) 30 (nI (1 + 1))) 6 (σ.2.1 r 1))) = some (σ.2.1 r 2, putR w (rint (rint (rint (rint (rint (rint (rint (rkin σ r) 31 0) 30 (nI 0)) 30 (nI (0 + 1))) 0 (σ.2.1 r 0)) 30 (nI (1 + 1))) 6 (σ.2.1 r 1)) 30 (nI (2 + 1)))) := fun v => carry_back hr w _ (show 2 < 68 by decide) h2.2.2.2.1 h2.2.2.2.2.1 h2.2.2.2.2.2.1 v
  rw [c2, bk_some, sF_R11, bind_some']
  exact e
/-! ==== in the terms of κ and y ==== -/
/-- what the row k (8 kept, 9 imaged) of y holds: κ -/
def Kept (y : aY) (k : Nat) (κ : aK) : Prop := y.2.1 k 0 = nI κ.1 ∧ y.2.1 k 1 = κ.2.1 1 ∧ y.2.1 k 2 = κ.2.1 0 ∧ (∀ b, b < κ.1 → ∀ c, c < 5 → y.2.1 k (3 + 5 * b + c) = κ.2.2 c b) ∧ (∀ p, p < 5 → ∀ c, c < 4 → y.2.1 k (48 + 4 * p + c) = κ.2.2 (5 + c) p)
/-- y and y' agree on what lasts: no snow lies, there is an image or not, the shelves' rows; the image (k = 8 means: it too) -/
def Yeq (y y' : aY) : Prop := y'.1 0 = y.1 0 ∧ y'.1 6 = y.1 6 ∧ (∀ k, k < 5 → y'.2.1 k = y.2.1 k) ∧ y'.2.2.2.1 = y.2.2.2.1
theorem Yeq.refl (y : aY) : Yeq y y := ⟨rfl, rfl, fun _ _ => rfl, rfl⟩
theorem Yeq.trans {a b c : aY} (h1 : Yeq a b) (h2 : Yeq b c) : Yeq a c := ⟨h2.1.trans h1.1, h2.2.1.trans h1.2.1, fun k hk => (h2.2.2.1 k hk).trans (h1.2.2.1 k hk), h2.2.2.2.trans h1.2.2.2⟩
