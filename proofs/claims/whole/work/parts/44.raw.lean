/-! PURE: the model in a world as plain rows: scalars by their field, rows of ints by their cell -/
abbrev aR : Type := (Nat → Int32) × (Nat → Nat → Int32) × (Nat → Int64) × (Nat → Int64) × Option Nat
def rfs (σ : aR) : List Value := [.int (σ.1 0), .ref 51, .ref 52, .ref 53, .ref 54, .ref 55, .int (σ.1 6), .ref 56, .ref 57, .ref 58, .ref 59, .int (σ.1 11), .int (σ.1 12), .ref 60, .ref 61, .ref 62, .ref 63, .ref 64, .ref 65, .int (σ.1 19), .int (σ.1 20), .int (σ.1 21), .int (σ.1 22), .int (σ.1 23), .ref 66, .ref 67, .ref 68, .ref 69, .ref 70, .int (σ.1 29), .int (σ.1 30), .int (σ.1 31), va_rf σ.2.2.2.2, .ref 71, .ref 72, .int (σ.1 35), .ref 73]
def putR (w : aW) (σ : aR) : aW := fun i => match i with
  | 50 => .inr (3, rfs σ)
  | 51 => .inl (0, 9, .inl (σ.2.1 51))
  | 52 => .inl (0, 9, .inl (σ.2.1 52))
  | 53 => .inl (0, 9, .inl (σ.2.1 53))
  | 54 => .inl (0, 9, .inl (σ.2.1 54))
  | 55 => .inl (0, 9, .inl (σ.2.1 55))
  | 56 => .inl (0, 5, .inl (σ.2.1 56))
  | 57 => .inl (0, 5, .inl (σ.2.1 57))
  | 58 => .inl (0, 5, .inl (σ.2.1 58))
  | 59 => .inl (0, 5, .inl (σ.2.1 59))
  | 60 => .inl (0, 8, .inl (σ.2.1 60))
  | 61 => .inl (0, 8, .inl (σ.2.1 61))
  | 62 => .inl (0, 8, .inl (σ.2.1 62))
  | 63 => .inl (0, 8, .inl (σ.2.1 63))
  | 64 => .inl (0, 8, .inl (σ.2.1 64))
  | 65 => .inl (1, 800, .inr (.inl σ.2.2.1))
  | 66 => .inl (0, 51, .inl (σ.2.1 66))
  | 67 => .inl (0, 51, .inl (σ.2.1 67))
  | 68 => .inl (0, 204, .inl (σ.2.1 68))
  | 69 => .inl (0, 68, .inl (σ.2.1 69))
  | 70 => .inl (0, 68, .inl (σ.2.1 70))
  | 71 => .inl (0, 9, .inl (σ.2.1 71))
  | 72 => .inl (0, 8, .inl (σ.2.1 72))
  | 73 => .inl (1, 100, .inr (.inl σ.2.2.2.1))
  | i => w i
def rawS (κ : aK) (y : aY) : Nat → Int32 := fun k => match k with
  | 0 => nI κ.1
  | 6 => κ.2.1 1
  | 11 => κ.2.1 0
  | 12 => y.1 0
  | 19 => y.1 1
  | 20 => y.1 2
  | 21 => y.1 3
  | 22 => y.1 4
  | 23 => y.1 5
  | 29 => y.1 6
  | 30 => y.1 7
  | 31 => y.1 8
  | 35 => y.1 9
  | _ => 0
def rawA (κ : aK) (y : aY) : Nat → Nat → Int32 := fun c => match c with
  | 51 => mix κ.1 (κ.2.2 0) (y.2.2.1 0)
  | 52 => mix κ.1 (κ.2.2 1) (y.2.2.1 1)
  | 53 => mix κ.1 (κ.2.2 2) (y.2.2.1 2)
  | 54 => mix κ.1 (κ.2.2 3) (y.2.2.1 3)
  | 55 => mix κ.1 (κ.2.2 4) (y.2.2.1 4)
  | 56 => tr 5 (κ.2.2 5)
  | 57 => tr 5 (κ.2.2 6)
  | 58 => tr 5 (κ.2.2 7)
  | 59 => tr 5 (κ.2.2 8)
  | 60 => y.2.1 0
  | 61 => y.2.1 1
  | 62 => y.2.1 2
  | 63 => y.2.1 3
  | 64 => y.2.1 4
  | 66 => y.2.1 5
  | 67 => y.2.1 6
  | 68 => y.2.1 7
  | 69 => y.2.1 8
  | 70 => y.2.1 9
  | 71 => y.2.1 10
  | 72 => y.2.1 11
  | _ => fun _ => 0
def raw (κ : aK) (y : aY) : aR := (rawS κ y, rawA κ y, y.2.2.2.1, y.2.2.2.2.1, y.2.2.2.2.2)
theorem putY_raw (w : aW) (κ : aK) (y : aY) : putY w κ y = putR w (raw κ y) := by
  funext i
  unfold putY putR
  split <;> first | rfl | (split <;> first | rfl | simp_all)
def rint (σ : aR) (a : Nat) (x : Int32) : aR := (fun z => if z = a then x else σ.1 z, σ.2)
def rset (σ : aR) (c i : Nat) (x : Int32) : aR := (σ.1, fun c' => if c' = c then upd (σ.2.1 c) i x else σ.2.1 c', σ.2.2)
def rkin (σ : aR) (r : Nat) : aR := (σ.1, σ.2.1, σ.2.2.1, σ.2.2.2.1, some r)
theorem rset_21 (σ : aR) (c i : Nat) (x : Int32) (c' i' : Nat) : (rset σ c i x).2.1 c' i' = if c' = c ∧ i' = i then x else σ.2.1 c' i' := by
  unfold rset upd
  by_cases h : c' = c
  · subst h; by_cases h2 : i' = i <;> simp [h2]
  · simp [h]
theorem rset_1 (σ : aR) (c i : Nat) (x : Int32) : (rset σ c i x).1 = σ.1 := rfl
theorem rset_22 (σ : aR) (c i : Nat) (x : Int32) : (rset σ c i x).2.2 = σ.2.2 := rfl
theorem rint_1 (σ : aR) (a : Nat) (x : Int32) (z : Nat) : (rint σ a x).1 z = if z = a then x else σ.1 z := rfl
theorem rint_2 (σ : aR) (a : Nat) (x : Int32) : (rint σ a x).2 = σ.2 := rfl
theorem rset_self (σ : aR) (c i : Nat) : rset σ c i (σ.2.1 c i) = σ := by
  unfold rset
  have : (fun c' => if c' = c then upd (σ.2.1 c) i (σ.2.1 c i) else σ.2.1 c') = σ.2.1 := by
    funext c' z
    by_cases h : c' = c
    · subst h
      unfold upd
      by_cases h2 : z = i <;> simp [h2]
    · simp [h]
  rw [this]
theorem rint_self (σ : aR) (a : Nat) : rint σ a (σ.1 a) = σ := by
  unfold rint
  have : (fun z => if z = a then σ.1 a else σ.1 z) = σ.1 := by
    funext z
    by_cases hz : z = a <;> simp [hz]
  rw [this]
theorem fld_R (w : aW) (σ : aR) (k : Nat) : a_fld 3 (putR w σ) 50 k = (rfs σ)[k]? := Eq.trans rfl rfl
theorem cV_R {α : Type} (w : aW) (σ : aR) (x : Option α) : cV 3 (putR w σ) 50 x = x := Eq.trans rfl rfl
theorem gI_R0 (w : aW) (σ : aR) : gI 3 (putR w σ) 50 0 = some (σ.1 0) := Eq.trans rfl rfl
theorem sF_R0 (w : aW) (σ : aR) (x : Int32) : sF 3 (putR w σ) 50 0 (.int x) = some (putR w (rint σ 0 x)) := by
  show some (a_up (putR w σ) 50 (.inr (3, (rfs σ).set 0 (.int x)))) = _
  congr 1
  funext i
  unfold a_up
  by_cases hi : i = 50
  · subst hi; rfl
  · rw [if_neg hi]
    unfold putR
    split <;> first | rfl | exact absurd rfl hi
theorem gR_R1 (w : aW) (σ : aR) : gR 3 (putR w σ) 50 1 = some 51 := Eq.trans rfl rfl
theorem gR_R2 (w : aW) (σ : aR) : gR 3 (putR w σ) 50 2 = some 52 := Eq.trans rfl rfl
theorem gR_R3 (w : aW) (σ : aR) : gR 3 (putR w σ) 50 3 = some 53 := Eq.trans rfl rfl
theorem gR_R4 (w : aW) (σ : aR) : gR 3 (putR w σ) 50 4 = some 54 := Eq.trans rfl rfl
theorem gR_R5 (w : aW) (σ : aR) : gR 3 (putR w σ) 50 5 = some 55 := Eq.trans rfl rfl
theorem gI_R6 (w : aW) (σ : aR) : gI 3 (putR w σ) 50 6 = some (σ.1 6) := Eq.trans rfl rfl
theorem sF_R6 (w : aW) (σ : aR) (x : Int32) : sF 3 (putR w σ) 50 6 (.int x) = some (putR w (rint σ 6 x)) := by
  show some (a_up (putR w σ) 50 (.inr (3, (rfs σ).set 6 (.int x)))) = _
  congr 1
  funext i
  unfold a_up
  by_cases hi : i = 50
  · subst hi; rfl
  · rw [if_neg hi]
    unfold putR
    split <;> first | rfl | exact absurd rfl hi
theorem gR_R7 (w : aW) (σ : aR) : gR 3 (putR w σ) 50 7 = some 56 := Eq.trans rfl rfl
theorem gR_R8 (w : aW) (σ : aR) : gR 3 (putR w σ) 50 8 = some 57 := Eq.trans rfl rfl
theorem gR_R9 (w : aW) (σ : aR) : gR 3 (putR w σ) 50 9 = some 58 := Eq.trans rfl rfl
theorem gR_R10 (w : aW) (σ : aR) : gR 3 (putR w σ) 50 10 = some 59 := Eq.trans rfl rfl
theorem gI_R11 (w : aW) (σ : aR) : gI 3 (putR w σ) 50 11 = some (σ.1 11) := Eq.trans rfl rfl
theorem sF_R11 (w : aW) (σ : aR) (x : Int32) : sF 3 (putR w σ) 50 11 (.int x) = some (putR w (rint σ 11 x)) := by
  show some (a_up (putR w σ) 50 (.inr (3, (rfs σ).set 11 (.int x)))) = _
  congr 1
  funext i
  unfold a_up
  by_cases hi : i = 50
  · subst hi; rfl
  · rw [if_neg hi]
    unfold putR
    split <;> first | rfl | exact absurd rfl hi
theorem gI_R12 (w : aW) (σ : aR) : gI 3 (putR w σ) 50 12 = some (σ.1 12) := Eq.trans rfl rfl
theorem sF_R12 (w : aW) (σ : aR) (x : Int32) : sF 3 (putR w σ) 50 12 (.int x) = some (putR w (rint σ 12 x)) := by
  show some (a_up (putR w σ) 50 (.inr (3, (rfs σ).set 12 (.int x)))) = _
  congr 1
  funext i
  unfold a_up
  by_cases hi : i = 50
  · subst hi; rfl
  · rw [if_neg hi]
    unfold putR
    split <;> first | rfl | exact absurd rfl hi
theorem gR_R13 (w : aW) (σ : aR) : gR 3 (putR w σ) 50 13 = some 60 := Eq.trans rfl rfl
theorem gR_R14 (w : aW) (σ : aR) : gR 3 (putR w σ) 50 14 = some 61 := Eq.trans rfl rfl
theorem gR_R15 (w : aW) (σ : aR) : gR 3 (putR w σ) 50 15 = some 62 := Eq.trans rfl rfl
theorem gR_R16 (w : aW) (σ : aR) : gR 3 (putR w σ) 50 16 = some 63 := Eq.trans rfl rfl
theorem gR_R17 (w : aW) (σ : aR) : gR 3 (putR w σ) 50 17 = some 64 := Eq.trans rfl rfl
theorem gR_R18 (w : aW) (σ : aR) : gR 3 (putR w σ) 50 18 = some 65 := Eq.trans rfl rfl
theorem gI_R19 (w : aW) (σ : aR) : gI 3 (putR w σ) 50 19 = some (σ.1 19) := Eq.trans rfl rfl
theorem sF_R19 (w : aW) (σ : aR) (x : Int32) : sF 3 (putR w σ) 50 19 (.int x) = some (putR w (rint σ 19 x)) := by
  show some (a_up (putR w σ) 50 (.inr (3, (rfs σ).set 19 (.int x)))) = _
  congr 1
  funext i
  unfold a_up
  by_cases hi : i = 50
  · subst hi; rfl
  · rw [if_neg hi]
    unfold putR
    split <;> first | rfl | exact absurd rfl hi
theorem gI_R20 (w : aW) (σ : aR) : gI 3 (putR w σ) 50 20 = some (σ.1 20) := Eq.trans rfl rfl
theorem sF_R20 (w : aW) (σ : aR) (x : Int32) : sF 3 (putR w σ) 50 20 (.int x) = some (putR w (rint σ 20 x)) := by
  show some (a_up (putR w σ) 50 (.inr (3, (rfs σ).set 20 (.int x)))) = _
  congr 1
  funext i
  unfold a_up
  by_cases hi : i = 50
  · subst hi; rfl
  · rw [if_neg hi]
    unfold putR
    split <;> first | rfl | exact absurd rfl hi
theorem gI_R21 (w : aW) (σ : aR) : gI 3 (putR w σ) 50 21 = some (σ.1 21) := Eq.trans rfl rfl
theorem sF_R21 (w : aW) (σ : aR) (x : Int32) : sF 3 (putR w σ) 50 21 (.int x) = some (putR w (rint σ 21 x)) := by
  show some (a_up (putR w σ) 50 (.inr (3, (rfs σ).set 21 (.int x)))) = _
  congr 1
  funext i
  unfold a_up
  by_cases hi : i = 50
  · subst hi; rfl
  · rw [if_neg hi]
    unfold putR
    split <;> first | rfl | exact absurd rfl hi
theorem gI_R22 (w : aW) (σ : aR) : gI 3 (putR w σ) 50 22 = some (σ.1 22) := Eq.trans rfl rfl
theorem sF_R22 (w : aW) (σ : aR) (x : Int32) : sF 3 (putR w σ) 50 22 (.int x) = some (putR w (rint σ 22 x)) := by
  show some (a_up (putR w σ) 50 (.inr (3, (rfs σ).set 22 (.int x)))) = _
  congr 1
  funext i
  unfold a_up
  by_cases hi : i = 50
  · subst hi; rfl
  · rw [if_neg hi]
    unfold putR
    split <;> first | rfl | exact absurd rfl hi
theorem gI_R23 (w : aW) (σ : aR) : gI 3 (putR w σ) 50 23 = some (σ.1 23) := Eq.trans rfl rfl
theorem sF_R23 (w : aW) (σ : aR) (x : Int32) : sF 3 (putR w σ) 50 23 (.int x) = some (putR w (rint σ 23 x)) := by
  show some (a_up (putR w σ) 50 (.inr (3, (rfs σ).set 23 (.int x)))) = _
  congr 1
  funext i
  unfold a_up
  by_cases hi : i = 50
  · subst hi; rfl
  · rw [if_neg hi]
    unfold putR
    split <;> first | rfl | exact absurd rfl hi
theorem gR_R24 (w : aW) (σ : aR) : gR 3 (putR w σ) 50 24 = some 66 := Eq.trans rfl rfl
theorem gR_R25 (w : aW) (σ : aR) : gR 3 (putR w σ) 50 25 = some 67 := Eq.trans rfl rfl
theorem gR_R26 (w : aW) (σ : aR) : gR 3 (putR w σ) 50 26 = some 68 := Eq.trans rfl rfl
theorem gR_R27 (w : aW) (σ : aR) : gR 3 (putR w σ) 50 27 = some 69 := Eq.trans rfl rfl
theorem gR_R28 (w : aW) (σ : aR) : gR 3 (putR w σ) 50 28 = some 70 := Eq.trans rfl rfl
theorem gI_R29 (w : aW) (σ : aR) : gI 3 (putR w σ) 50 29 = some (σ.1 29) := Eq.trans rfl rfl
theorem sF_R29 (w : aW) (σ : aR) (x : Int32) : sF 3 (putR w σ) 50 29 (.int x) = some (putR w (rint σ 29 x)) := by
  show some (a_up (putR w σ) 50 (.inr (3, (rfs σ).set 29 (.int x)))) = _
  congr 1
  funext i
  unfold a_up
  by_cases hi : i = 50
  · subst hi; rfl
  · rw [if_neg hi]
    unfold putR
    split <;> first | rfl | exact absurd rfl hi
theorem gI_R30 (w : aW) (σ : aR) : gI 3 (putR w σ) 50 30 = some (σ.1 30) := Eq.trans rfl rfl
theorem sF_R30 (w : aW) (σ : aR) (x : Int32) : sF 3 (putR w σ) 50 30 (.int x) = some (putR w (rint σ 30 x)) := by
  show some (a_up (putR w σ) 50 (.inr (3, (rfs σ).set 30 (.int x)))) = _
  congr 1
  funext i
  unfold a_up
  by_cases hi : i = 50
  · subst hi; rfl
  · rw [if_neg hi]
    unfold putR
    split <;> first | rfl | exact absurd rfl hi
theorem gI_R31 (w : aW) (σ : aR) : gI 3 (putR w σ) 50 31 = some (σ.1 31) := Eq.trans rfl rfl
theorem sF_R31 (w : aW) (σ : aR) (x : Int32) : sF 3 (putR w σ) 50 31 (.int x) = some (putR w (rint σ 31 x)) := by
  show some (a_up (putR w σ) 50 (.inr (3, (rfs σ).set 31 (.int x)))) = _
  congr 1
  funext i
  unfold a_up
  by_cases hi : i = 50
  · subst hi; rfl
  · rw [if_neg hi]
    unfold putR
    split <;> first | rfl | exact absurd rfl hi
theorem gR_R33 (w : aW) (σ : aR) : gR 3 (putR w σ) 50 33 = some 71 := Eq.trans rfl rfl
theorem gR_R34 (w : aW) (σ : aR) : gR 3 (putR w σ) 50 34 = some 72 := Eq.trans rfl rfl
theorem gI_R35 (w : aW) (σ : aR) : gI 3 (putR w σ) 50 35 = some (σ.1 35) := Eq.trans rfl rfl
theorem sF_R35 (w : aW) (σ : aR) (x : Int32) : sF 3 (putR w σ) 50 35 (.int x) = some (putR w (rint σ 35 x)) := by
  show some (a_up (putR w σ) 50 (.inr (3, (rfs σ).set 35 (.int x)))) = _
  congr 1
  funext i
  unfold a_up
  by_cases hi : i = 50
  · subst hi; rfl
  · rw [if_neg hi]
    unfold putR
    split <;> first | rfl | exact absurd rfl hi
theorem gR_R36 (w : aW) (σ : aR) : gR 3 (putR w σ) 50 36 = some 73 := Eq.trans rfl rfl
theorem gR_R32 (w : aW) (σ : aR) {r : Nat} (h : σ.2.2.2.2 = some r) : gR 3 (putR w σ) 50 32 = some r := by
  unfold gR
  rw [fld_R]
  show (match some (va_rf σ.2.2.2.2) with | some (.ref x) => some x | _ => none) = _
  rw [h]
  rfl
theorem sF_R32 (w : aW) (σ : aR) (r : Nat) : sF 3 (putR w σ) 50 32 (.ref r) = some (putR w (rkin σ r)) := by
  show some (a_up (putR w σ) 50 (.inr (3, (rfs σ).set 32 (.ref r)))) = _
  congr 1
  funext i
  unfold a_up
  by_cases hi : i = 50
  · subst hi; rfl
  · rw [if_neg hi]
    unfold putR
    split <;> first | rfl | exact absurd rfl hi
theorem ia_R51 (w : aW) (σ : aR) : a_ia (putR w σ) 51 = some (9, σ.2.1 51) := Eq.trans rfl rfl
theorem gA_R51 (w : aW) (σ : aR) {i : Nat} (hi : i < 9) : gA (putR w σ) 51 (nI i) = some (σ.2.1 51 i) := by
  unfold gA
  rw [ia_R51]
  simp only [Option.bind_some]
  rw [if_neg (ix_ok hi (by decide)), nI_clamp (by omega)]
theorem sA_R51 (w : aW) (σ : aR) {i : Nat} (hi : i < 9) (x : Int32) : sA (putR w σ) 51 (nI i) x = some (putR w (rset σ 51 i x)) := by
  unfold sA
  rw [ia_R51]
  simp only [Option.bind_some]
  rw [if_neg (ix_ok hi (by decide)), nI_clamp (by omega)]
  congr 1
  funext z
  unfold a_up
  by_cases hz : z = 51
  · subst hz; rfl
  · rw [if_neg hz]
    unfold putR
    split <;> first | rfl | exact absurd rfl hz
theorem ia_R52 (w : aW) (σ : aR) : a_ia (putR w σ) 52 = some (9, σ.2.1 52) := Eq.trans rfl rfl
theorem gA_R52 (w : aW) (σ : aR) {i : Nat} (hi : i < 9) : gA (putR w σ) 52 (nI i) = some (σ.2.1 52 i) := by
  unfold gA
  rw [ia_R52]
  simp only [Option.bind_some]
  rw [if_neg (ix_ok hi (by decide)), nI_clamp (by omega)]
theorem sA_R52 (w : aW) (σ : aR) {i : Nat} (hi : i < 9) (x : Int32) : sA (putR w σ) 52 (nI i) x = some (putR w (rset σ 52 i x)) := by
  unfold sA
  rw [ia_R52]
  simp only [Option.bind_some]
  rw [if_neg (ix_ok hi (by decide)), nI_clamp (by omega)]
  congr 1
  funext z
  unfold a_up
  by_cases hz : z = 52
  · subst hz; rfl
  · rw [if_neg hz]
    unfold putR
    split <;> first | rfl | exact absurd rfl hz
theorem ia_R53 (w : aW) (σ : aR) : a_ia (putR w σ) 53 = some (9, σ.2.1 53) := Eq.trans rfl rfl
theorem gA_R53 (w : aW) (σ : aR) {i : Nat} (hi : i < 9) : gA (putR w σ) 53 (nI i) = some (σ.2.1 53 i) := by
  unfold gA
  rw [ia_R53]
  simp only [Option.bind_some]
  rw [if_neg (ix_ok hi (by decide)), nI_clamp (by omega)]
theorem sA_R53 (w : aW) (σ : aR) {i : Nat} (hi : i < 9) (x : Int32) : sA (putR w σ) 53 (nI i) x = some (putR w (rset σ 53 i x)) := by
  unfold sA
  rw [ia_R53]
  simp only [Option.bind_some]
  rw [if_neg (ix_ok hi (by decide)), nI_clamp (by omega)]
  congr 1
  funext z
  unfold a_up
  by_cases hz : z = 53
  · subst hz; rfl
  · rw [if_neg hz]
    unfold putR
    split <;> first | rfl | exact absurd rfl hz
theorem ia_R54 (w : aW) (σ : aR) : a_ia (putR w σ) 54 = some (9, σ.2.1 54) := Eq.trans rfl rfl
theorem gA_R54 (w : aW) (σ : aR) {i : Nat} (hi : i < 9) : gA (putR w σ) 54 (nI i) = some (σ.2.1 54 i) := by
  unfold gA
  rw [ia_R54]
  simp only [Option.bind_some]
  rw [if_neg (ix_ok hi (by decide)), nI_clamp (by omega)]
theorem sA_R54 (w : aW) (σ : aR) {i : Nat} (hi : i < 9) (x : Int32) : sA (putR w σ) 54 (nI i) x = some (putR w (rset σ 54 i x)) := by
  unfold sA
  rw [ia_R54]
  simp only [Option.bind_some]
  rw [if_neg (ix_ok hi (by decide)), nI_clamp (by omega)]
  congr 1
  funext z
  unfold a_up
  by_cases hz : z = 54
  · subst hz; rfl
  · rw [if_neg hz]
    unfold putR
    split <;> first | rfl | exact absurd rfl hz
theorem ia_R55 (w : aW) (σ : aR) : a_ia (putR w σ) 55 = some (9, σ.2.1 55) := Eq.trans rfl rfl
theorem gA_R55 (w : aW) (σ : aR) {i : Nat} (hi : i < 9) : gA (putR w σ) 55 (nI i) = some (σ.2.1 55 i) := by
  unfold gA
  rw [ia_R55]
  simp only [Option.bind_some]
  rw [if_neg (ix_ok hi (by decide)), nI_clamp (by omega)]
theorem sA_R55 (w : aW) (σ : aR) {i : Nat} (hi : i < 9) (x : Int32) : sA (putR w σ) 55 (nI i) x = some (putR w (rset σ 55 i x)) := by
  unfold sA
  rw [ia_R55]
  simp only [Option.bind_some]
  rw [if_neg (ix_ok hi (by decide)), nI_clamp (by omega)]
  congr 1
  funext z
  unfold a_up
  by_cases hz : z = 55
  · subst hz; rfl
  · rw [if_neg hz]
    unfold putR
    split <;> first | rfl | exact absurd rfl hz
theorem ia_R56 (w : aW) (σ : aR) : a_ia (putR w σ) 56 = some (5, σ.2.1 56) := Eq.trans rfl rfl
theorem gA_R56 (w : aW) (σ : aR) {i : Nat} (hi : i < 5) : gA (putR w σ) 56 (nI i) = some (σ.2.1 56 i) := by
  unfold gA
  rw [ia_R56]
  simp only [Option.bind_some]
  rw [if_neg (ix_ok hi (by decide)), nI_clamp (by omega)]
theorem sA_R56 (w : aW) (σ : aR) {i : Nat} (hi : i < 5) (x : Int32) : sA (putR w σ) 56 (nI i) x = some (putR w (rset σ 56 i x)) := by
  unfold sA
  rw [ia_R56]
  simp only [Option.bind_some]
  rw [if_neg (ix_ok hi (by decide)), nI_clamp (by omega)]
  congr 1
  funext z
  unfold a_up
  by_cases hz : z = 56
  · subst hz; rfl
  · rw [if_neg hz]
    unfold putR
    split <;> first | rfl | exact absurd rfl hz
theorem ia_R57 (w : aW) (σ : aR) : a_ia (putR w σ) 57 = some (5, σ.2.1 57) := Eq.trans rfl rfl
theorem gA_R57 (w : aW) (σ : aR) {i : Nat} (hi : i < 5) : gA (putR w σ) 57 (nI i) = some (σ.2.1 57 i) := by
  unfold gA
  rw [ia_R57]
  simp only [Option.bind_some]
  rw [if_neg (ix_ok hi (by decide)), nI_clamp (by omega)]
theorem sA_R57 (w : aW) (σ : aR) {i : Nat} (hi : i < 5) (x : Int32) : sA (putR w σ) 57 (nI i) x = some (putR w (rset σ 57 i x)) := by
  unfold sA
  rw [ia_R57]
  simp only [Option.bind_some]
  rw [if_neg (ix_ok hi (by decide)), nI_clamp (by omega)]
  congr 1
  funext z
  unfold a_up
  by_cases hz : z = 57
  · subst hz; rfl
  · rw [if_neg hz]
    unfold putR
    split <;> first | rfl | exact absurd rfl hz
theorem ia_R58 (w : aW) (σ : aR) : a_ia (putR w σ) 58 = some (5, σ.2.1 58) := Eq.trans rfl rfl
theorem gA_R58 (w : aW) (σ : aR) {i : Nat} (hi : i < 5) : gA (putR w σ) 58 (nI i) = some (σ.2.1 58 i) := by
  unfold gA
  rw [ia_R58]
  simp only [Option.bind_some]
  rw [if_neg (ix_ok hi (by decide)), nI_clamp (by omega)]
theorem sA_R58 (w : aW) (σ : aR) {i : Nat} (hi : i < 5) (x : Int32) : sA (putR w σ) 58 (nI i) x = some (putR w (rset σ 58 i x)) := by
  unfold sA
  rw [ia_R58]
  simp only [Option.bind_some]
  rw [if_neg (ix_ok hi (by decide)), nI_clamp (by omega)]
  congr 1
  funext z
  unfold a_up
  by_cases hz : z = 58
  · subst hz; rfl
  · rw [if_neg hz]
    unfold putR
    split <;> first | rfl | exact absurd rfl hz
theorem ia_R59 (w : aW) (σ : aR) : a_ia (putR w σ) 59 = some (5, σ.2.1 59) := Eq.trans rfl rfl
theorem gA_R59 (w : aW) (σ : aR) {i : Nat} (hi : i < 5) : gA (putR w σ) 59 (nI i) = some (σ.2.1 59 i) := by
  unfold gA
  rw [ia_R59]
  simp only [Option.bind_some]
  rw [if_neg (ix_ok hi (by decide)), nI_clamp (by omega)]
theorem sA_R59 (w : aW) (σ : aR) {i : Nat} (hi : i < 5) (x : Int32) : sA (putR w σ) 59 (nI i) x = some (putR w (rset σ 59 i x)) := by
  unfold sA
  rw [ia_R59]
  simp only [Option.bind_some]
  rw [if_neg (ix_ok hi (by decide)), nI_clamp (by omega)]
  congr 1
  funext z
  unfold a_up
  by_cases hz : z = 59
  · subst hz; rfl
  · rw [if_neg hz]
    unfold putR
    split <;> first | rfl | exact absurd rfl hz
theorem ia_R60 (w : aW) (σ : aR) : a_ia (putR w σ) 60 = some (8, σ.2.1 60) := Eq.trans rfl rfl
theorem gA_R60 (w : aW) (σ : aR) {i : Nat} (hi : i < 8) : gA (putR w σ) 60 (nI i) = some (σ.2.1 60 i) := by
  unfold gA
  rw [ia_R60]
  simp only [Option.bind_some]
  rw [if_neg (ix_ok hi (by decide)), nI_clamp (by omega)]
theorem sA_R60 (w : aW) (σ : aR) {i : Nat} (hi : i < 8) (x : Int32) : sA (putR w σ) 60 (nI i) x = some (putR w (rset σ 60 i x)) := by
  unfold sA
  rw [ia_R60]
  simp only [Option.bind_some]
  rw [if_neg (ix_ok hi (by decide)), nI_clamp (by omega)]
  congr 1
  funext z
  unfold a_up
  by_cases hz : z = 60
  · subst hz; rfl
  · rw [if_neg hz]
    unfold putR
    split <;> first | rfl | exact absurd rfl hz
theorem ia_R61 (w : aW) (σ : aR) : a_ia (putR w σ) 61 = some (8, σ.2.1 61) := Eq.trans rfl rfl
theorem gA_R61 (w : aW) (σ : aR) {i : Nat} (hi : i < 8) : gA (putR w σ) 61 (nI i) = some (σ.2.1 61 i) := by
  unfold gA
  rw [ia_R61]
  simp only [Option.bind_some]
  rw [if_neg (ix_ok hi (by decide)), nI_clamp (by omega)]
theorem sA_R61 (w : aW) (σ : aR) {i : Nat} (hi : i < 8) (x : Int32) : sA (putR w σ) 61 (nI i) x = some (putR w (rset σ 61 i x)) := by
  unfold sA
  rw [ia_R61]
  simp only [Option.bind_some]
  rw [if_neg (ix_ok hi (by decide)), nI_clamp (by omega)]
  congr 1
  funext z
  unfold a_up
  by_cases hz : z = 61
  · subst hz; rfl
  · rw [if_neg hz]
    unfold putR
    split <;> first | rfl | exact absurd rfl hz
theorem ia_R62 (w : aW) (σ : aR) : a_ia (putR w σ) 62 = some (8, σ.2.1 62) := Eq.trans rfl rfl
theorem gA_R62 (w : aW) (σ : aR) {i : Nat} (hi : i < 8) : gA (putR w σ) 62 (nI i) = some (σ.2.1 62 i) := by
  unfold gA
  rw [ia_R62]
  simp only [Option.bind_some]
  rw [if_neg (ix_ok hi (by decide)), nI_clamp (by omega)]
theorem sA_R62 (w : aW) (σ : aR) {i : Nat} (hi : i < 8) (x : Int32) : sA (putR w σ) 62 (nI i) x = some (putR w (rset σ 62 i x)) := by
  unfold sA
  rw [ia_R62]
  simp only [Option.bind_some]
  rw [if_neg (ix_ok hi (by decide)), nI_clamp (by omega)]
  congr 1
  funext z
  unfold a_up
  by_cases hz : z = 62
  · subst hz; rfl
  · rw [if_neg hz]
    unfold putR
    split <;> first | rfl | exact absurd rfl hz
theorem ia_R63 (w : aW) (σ : aR) : a_ia (putR w σ) 63 = some (8, σ.2.1 63) := Eq.trans rfl rfl
theorem gA_R63 (w : aW) (σ : aR) {i : Nat} (hi : i < 8) : gA (putR w σ) 63 (nI i) = some (σ.2.1 63 i) := by
  unfold gA
  rw [ia_R63]
  simp only [Option.bind_some]
  rw [if_neg (ix_ok hi (by decide)), nI_clamp (by omega)]
theorem sA_R63 (w : aW) (σ : aR) {i : Nat} (hi : i < 8) (x : Int32) : sA (putR w σ) 63 (nI i) x = some (putR w (rset σ 63 i x)) := by
  unfold sA
  rw [ia_R63]
  simp only [Option.bind_some]
  rw [if_neg (ix_ok hi (by decide)), nI_clamp (by omega)]
  congr 1
  funext z
  unfold a_up
  by_cases hz : z = 63
  · subst hz; rfl
  · rw [if_neg hz]
    unfold putR
    split <;> first | rfl | exact absurd rfl hz
theorem ia_R64 (w : aW) (σ : aR) : a_ia (putR w σ) 64 = some (8, σ.2.1 64) := Eq.trans rfl rfl
theorem gA_R64 (w : aW) (σ : aR) {i : Nat} (hi : i < 8) : gA (putR w σ) 64 (nI i) = some (σ.2.1 64 i) := by
  unfold gA
  rw [ia_R64]
  simp only [Option.bind_some]
  rw [if_neg (ix_ok hi (by decide)), nI_clamp (by omega)]
theorem sA_R64 (w : aW) (σ : aR) {i : Nat} (hi : i < 8) (x : Int32) : sA (putR w σ) 64 (nI i) x = some (putR w (rset σ 64 i x)) := by
  unfold sA
  rw [ia_R64]
  simp only [Option.bind_some]
  rw [if_neg (ix_ok hi (by decide)), nI_clamp (by omega)]
  congr 1
  funext z
  unfold a_up
  by_cases hz : z = 64
  · subst hz; rfl
  · rw [if_neg hz]
    unfold putR
    split <;> first | rfl | exact absurd rfl hz
theorem ia_R66 (w : aW) (σ : aR) : a_ia (putR w σ) 66 = some (51, σ.2.1 66) := Eq.trans rfl rfl
theorem gA_R66 (w : aW) (σ : aR) {i : Nat} (hi : i < 51) : gA (putR w σ) 66 (nI i) = some (σ.2.1 66 i) := by
  unfold gA
  rw [ia_R66]
  simp only [Option.bind_some]
  rw [if_neg (ix_ok hi (by decide)), nI_clamp (by omega)]
theorem sA_R66 (w : aW) (σ : aR) {i : Nat} (hi : i < 51) (x : Int32) : sA (putR w σ) 66 (nI i) x = some (putR w (rset σ 66 i x)) := by
  unfold sA
  rw [ia_R66]
  simp only [Option.bind_some]
  rw [if_neg (ix_ok hi (by decide)), nI_clamp (by omega)]
  congr 1
  funext z
  unfold a_up
  by_cases hz : z = 66
  · subst hz; rfl
  · rw [if_neg hz]
    unfold putR
    split <;> first | rfl | exact absurd rfl hz
theorem ia_R67 (w : aW) (σ : aR) : a_ia (putR w σ) 67 = some (51, σ.2.1 67) := Eq.trans rfl rfl
theorem gA_R67 (w : aW) (σ : aR) {i : Nat} (hi : i < 51) : gA (putR w σ) 67 (nI i) = some (σ.2.1 67 i) := by
  unfold gA
  rw [ia_R67]
  simp only [Option.bind_some]
  rw [if_neg (ix_ok hi (by decide)), nI_clamp (by omega)]
theorem sA_R67 (w : aW) (σ : aR) {i : Nat} (hi : i < 51) (x : Int32) : sA (putR w σ) 67 (nI i) x = some (putR w (rset σ 67 i x)) := by
  unfold sA
  rw [ia_R67]
  simp only [Option.bind_some]
  rw [if_neg (ix_ok hi (by decide)), nI_clamp (by omega)]
  congr 1
  funext z
  unfold a_up
  by_cases hz : z = 67
  · subst hz; rfl
  · rw [if_neg hz]
    unfold putR
    split <;> first | rfl | exact absurd rfl hz
theorem ia_R68 (w : aW) (σ : aR) : a_ia (putR w σ) 68 = some (204, σ.2.1 68) := Eq.trans rfl rfl
theorem gA_R68 (w : aW) (σ : aR) {i : Nat} (hi : i < 204) : gA (putR w σ) 68 (nI i) = some (σ.2.1 68 i) := by
  unfold gA
  rw [ia_R68]
  simp only [Option.bind_some]
  rw [if_neg (ix_ok hi (by decide)), nI_clamp (by omega)]
theorem sA_R68 (w : aW) (σ : aR) {i : Nat} (hi : i < 204) (x : Int32) : sA (putR w σ) 68 (nI i) x = some (putR w (rset σ 68 i x)) := by
  unfold sA
  rw [ia_R68]
  simp only [Option.bind_some]
  rw [if_neg (ix_ok hi (by decide)), nI_clamp (by omega)]
  congr 1
  funext z
  unfold a_up
  by_cases hz : z = 68
  · subst hz; rfl
  · rw [if_neg hz]
    unfold putR
    split <;> first | rfl | exact absurd rfl hz
theorem ia_R69 (w : aW) (σ : aR) : a_ia (putR w σ) 69 = some (68, σ.2.1 69) := Eq.trans rfl rfl
theorem gA_R69 (w : aW) (σ : aR) {i : Nat} (hi : i < 68) : gA (putR w σ) 69 (nI i) = some (σ.2.1 69 i) := by
  unfold gA
  rw [ia_R69]
  simp only [Option.bind_some]
  rw [if_neg (ix_ok hi (by decide)), nI_clamp (by omega)]
theorem sA_R69 (w : aW) (σ : aR) {i : Nat} (hi : i < 68) (x : Int32) : sA (putR w σ) 69 (nI i) x = some (putR w (rset σ 69 i x)) := by
  unfold sA
  rw [ia_R69]
  simp only [Option.bind_some]
  rw [if_neg (ix_ok hi (by decide)), nI_clamp (by omega)]
  congr 1
  funext z
  unfold a_up
  by_cases hz : z = 69
  · subst hz; rfl
  · rw [if_neg hz]
    unfold putR
    split <;> first | rfl | exact absurd rfl hz
theorem ia_R70 (w : aW) (σ : aR) : a_ia (putR w σ) 70 = some (68, σ.2.1 70) := Eq.trans rfl rfl
theorem gA_R70 (w : aW) (σ : aR) {i : Nat} (hi : i < 68) : gA (putR w σ) 70 (nI i) = some (σ.2.1 70 i) := by
  unfold gA
  rw [ia_R70]
  simp only [Option.bind_some]
  rw [if_neg (ix_ok hi (by decide)), nI_clamp (by omega)]
theorem sA_R70 (w : aW) (σ : aR) {i : Nat} (hi : i < 68) (x : Int32) : sA (putR w σ) 70 (nI i) x = some (putR w (rset σ 70 i x)) := by
  unfold sA
  rw [ia_R70]
  simp only [Option.bind_some]
  rw [if_neg (ix_ok hi (by decide)), nI_clamp (by omega)]
  congr 1
  funext z
  unfold a_up
  by_cases hz : z = 70
  · subst hz; rfl
  · rw [if_neg hz]
    unfold putR
    split <;> first | rfl | exact absurd rfl hz
theorem ia_R71 (w : aW) (σ : aR) : a_ia (putR w σ) 71 = some (9, σ.2.1 71) := Eq.trans rfl rfl
theorem gA_R71 (w : aW) (σ : aR) {i : Nat} (hi : i < 9) : gA (putR w σ) 71 (nI i) = some (σ.2.1 71 i) := by
  unfold gA
  rw [ia_R71]
  simp only [Option.bind_some]
  rw [if_neg (ix_ok hi (by decide)), nI_clamp (by omega)]
theorem sA_R71 (w : aW) (σ : aR) {i : Nat} (hi : i < 9) (x : Int32) : sA (putR w σ) 71 (nI i) x = some (putR w (rset σ 71 i x)) := by
  unfold sA
  rw [ia_R71]
  simp only [Option.bind_some]
  rw [if_neg (ix_ok hi (by decide)), nI_clamp (by omega)]
  congr 1
  funext z
  unfold a_up
  by_cases hz : z = 71
  · subst hz; rfl
  · rw [if_neg hz]
    unfold putR
    split <;> first | rfl | exact absurd rfl hz
theorem ia_R72 (w : aW) (σ : aR) : a_ia (putR w σ) 72 = some (8, σ.2.1 72) := Eq.trans rfl rfl
theorem gA_R72 (w : aW) (σ : aR) {i : Nat} (hi : i < 8) : gA (putR w σ) 72 (nI i) = some (σ.2.1 72 i) := by
  unfold gA
  rw [ia_R72]
  simp only [Option.bind_some]
  rw [if_neg (ix_ok hi (by decide)), nI_clamp (by omega)]
theorem sA_R72 (w : aW) (σ : aR) {i : Nat} (hi : i < 8) (x : Int32) : sA (putR w σ) 72 (nI i) x = some (putR w (rset σ 72 i x)) := by
  unfold sA
  rw [ia_R72]
  simp only [Option.bind_some]
  rw [if_neg (ix_ok hi (by decide)), nI_clamp (by omega)]
  congr 1
  funext z
  unfold a_up
  by_cases hz : z = 72
  · subst hz; rfl
  · rw [if_neg hz]
    unfold putR
    split <;> first | rfl | exact absurd rfl hz
/-- one of the two rows that are carried into -/
def kin (r : Nat) : Prop := r = 69 ∨ r = 70
theorem gA_Rk {r : Nat} (hr : kin r) (w : aW) (σ : aR) {i : Nat} (hi : i < 68) : gA (putR w σ) r (nI i) = some (σ.2.1 r i) := by
  rcases hr with rfl | rfl
  · exact gA_R69 w σ hi
  · exact gA_R70 w σ hi
theorem sA_Rk {r : Nat} (hr : kin r) (w : aW) (σ : aR) {i : Nat} (hi : i < 68) (x : Int32) : sA (putR w σ) r (nI i) x = some (putR w (rset σ r i x)) := by
  rcases hr with rfl | rfl
  · exact sA_R69 w σ hi x
  · exact sA_R70 w σ hi x
theorem carry_take {r : Nat} (hr : kin r) (w : aW) (σ : aR) {i : Nat} (hi : i < 68) (h1 : σ.1 31 = 1) (h2 : σ.2.2.2.2 = some r) (h3 : σ.1 30 = nI i) (v : Int32) : f_X4_carry 50 v (putR w σ) = some (v, putR w (rint (rset σ r i v) 30 (nI (i + 1)))) := by
  unfold f_X4_carry c_X4_carry_17
  have h4 : (rset σ r i v).2.2.2.2 = some r := h2
  have h5 : (rint (rset σ r i v) 30 (nI (i + 1))).2.2.2.2 = some r := h2
  simp only [gI_R31, bind_some', h1, show ¬ (1 : Int32) = 0 from by decide, if_false, gR_R32 w σ h2, gI_R30, h3, sA_Rk hr w σ hi, rset_1, sF_R30, nI_1, gR_R32 w _ h5, rint_1, if_true, nI_pred, gA_Rk hr w _ hi]
  rw [rint_2, rset_21]
  simp
theorem carry_back {r : Nat} (hr : kin r) (w : aW) (σ : aR) {i : Nat} (hi : i < 68) (h1 : σ.1 31 = 0) (h2 : σ.2.2.2.2 = some r) (h3 : σ.1 30 = nI i) (v : Int32) : f_X4_carry 50 v (putR w σ) = some (σ.2.1 r i, putR w (rint σ 30 (nI (i + 1)))) := by
  unfold f_X4_carry c_X4_carry_17
  have h5 : (rint σ 30 (nI (i + 1))).2.2.2.2 = some r := h2
  simp only [gI_R31, bind_some', h1, if_true, gI_R30, h3, sF_R30, nI_1, gR_R32 w _ h5, rint_1, nI_pred, gA_Rk hr w _ hi]
  rfl
