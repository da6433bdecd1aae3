/-! the first state: a new object, a new model -/
def kap0 : aK := (0, fun _ => 0, fun k => if k = 4 then (fun j => if j < 9 then g4 j else 0) else if k = 5 then (fun j => if j < 5 then g40 j else 0) else if k = 6 then (fun j => if j < 5 then g3 j else 0) else fun _ => 0)
def X00 : aX := (kap0, kap0, kap0, 0, fun _ => (fun _ => 0, fun _ => 0), fun _ => 0, fun _ => 0)
def Y00 : aY := (fun _ => 0, fun _ _ => 0, fun _ _ => 0, fun _ => 0, fun _ => 0, none)
theorem kap0_4 {i : Nat} (h : i < 9) : kap0.2.2 4 i = -4 := if_pos h
theorem kap0_5 {i : Nat} (h : i < 5) : kap0.2.2 5 i = nI 40 := if_pos h
theorem kap0_6 {i : Nat} (h : i < 5) : kap0.2.2 6 i = 3 * nI i := if_pos h
theorem kap0_WF : WF kap0 := by
  refine ⟨by decide, fun i hi => ⟨⟨0, by decide, rfl⟩, ⟨0, by decide, rfl⟩, ⟨0, by decide, rfl⟩, ⟨0, by decide, rfl⟩, Or.inl (kap0_4 hi)⟩, fun p hp => ⟨⟨40, by decide, kap0_5 hp⟩, ⟨3 * p, by omega, ?_⟩, ⟨0, by decide, rfl⟩, ⟨0, by decide, rfl⟩⟩, ⟨0, by decide, rfl⟩, fun i _ hi => ⟨kap0_4 hi, ?_⟩⟩
  · rw [kap0_6 hp]
    rcases (show p = 0 ∨ p = 1 ∨ p = 2 ∨ p = 3 ∨ p = 4 by omega) with rfl | rfl | rfl | rfl | rfl <;> decide
  · show bitB 0 (nI i) = false
    rcases (show i = 0 ∨ i = 1 ∨ i = 2 ∨ i = 3 ∨ i = 4 ∨ i = 5 ∨ i = 6 ∨ i = 7 ∨ i = 8 by omega) with rfl | rfl | rfl | rfl | rfl | rfl | rfl | rfl | rfl <;> decide
theorem kap0_CA : CA kap0 := fun i hi h => absurd (kap0_4 hi) h
theorem Inv00 : Inv X00 Y00 := by
  refine ⟨kap0_WF, kap0_CA, rfl, fun d _ => ⟨⟨Or.inl rfl, ⟨0, by decide, rfl⟩, fun h => absurd h (by decide : ¬ (0 : Int32) = 1)⟩, rfl, fun h => absurd h (by decide : ¬ (0 : Int32) = 1), fun h => absurd h (by decide : ¬ (0 : Int32) = 2)⟩, rfl, fun h => absurd rfl h⟩
