/-! PURE: the model in a world: the same κ, and what it holds beside: scalars, rows of ints, what lies behind the beasts, rows of longs, keptIn -/
abbrev aY : Type := (Nat → Int32) × (Nat → Nat → Int32) × (Nat → Nat → Int32) × (Nat → Int64) × (Nat → Int64) × Option Nat
def mix (n : Nat) (f g : Nat → Int32) : Nat → Int32 := fun i => if i < n then f i else g i
def yint (y : aY) (a : Nat) (x : Int32) : aY := (fun z => if z = a then x else y.1 z, y.2)
def yarr (y : aY) (k : Nat) (f : Nat → Int32) : aY := (y.1, fun k' => if k' = k then f else y.2.1 k', y.2.2)
def yset (y : aY) (k i : Nat) (x : Int32) : aY := yarr y k (upd (y.2.1 k) i x)
def yjun (y : aY) (k : Nat) (f : Nat → Int32) : aY := (y.1, y.2.1, fun k' => if k' = k then f else y.2.2.1 k', y.2.2.2)
def yrow (y : aY) (f : Nat → Int64) : aY := (y.1, y.2.1, y.2.2.1, f, y.2.2.2.2)
def ybet (y : aY) (f : Nat → Int64) : aY := (y.1, y.2.1, y.2.2.1, y.2.2.2.1, f, y.2.2.2.2.2)
def ykin (y : aY) (r : Nat) : aY := (y.1, y.2.1, y.2.2.1, y.2.2.2.1, y.2.2.2.2.1, some r)
def yfl (κ : aK) (y : aY) : List Value := [.int (nI κ.1), .ref 51, .ref 52, .ref 53, .ref 54, .ref 55, .int (κ.2.1 1), .ref 56, .ref 57, .ref 58, .ref 59, .int (κ.2.1 0), .int (y.1 0), .ref 60, .ref 61, .ref 62, .ref 63, .ref 64, .ref 65, .int (y.1 1), .int (y.1 2), .int (y.1 3), .int (y.1 4), .int (y.1 5), .ref 66, .ref 67, .ref 68, .ref 69, .ref 70, .int (y.1 6), .int (y.1 7), .int (y.1 8), va_rf y.2.2.2.2.2, .ref 71, .ref 72, .int (y.1 9), .ref 73]
def putY (w : aW) (κ : aK) (y : aY) : aW := fun i => match i with
  | 50 => .inr (3, yfl κ y)
  | 51 => .inl (0, 9, .inl (mix κ.1 (κ.2.2 0) (y.2.2.1 0)))
  | 52 => .inl (0, 9, .inl (mix κ.1 (κ.2.2 1) (y.2.2.1 1)))
  | 53 => .inl (0, 9, .inl (mix κ.1 (κ.2.2 2) (y.2.2.1 2)))
  | 54 => .inl (0, 9, .inl (mix κ.1 (κ.2.2 3) (y.2.2.1 3)))
  | 55 => .inl (0, 9, .inl (mix κ.1 (κ.2.2 4) (y.2.2.1 4)))
  | 56 => .inl (0, 5, .inl (tr 5 (κ.2.2 5)))
  | 57 => .inl (0, 5, .inl (tr 5 (κ.2.2 6)))
  | 58 => .inl (0, 5, .inl (tr 5 (κ.2.2 7)))
  | 59 => .inl (0, 5, .inl (tr 5 (κ.2.2 8)))
  | 60 => .inl (0, 8, .inl (y.2.1 0))
  | 61 => .inl (0, 8, .inl (y.2.1 1))
  | 62 => .inl (0, 8, .inl (y.2.1 2))
  | 63 => .inl (0, 8, .inl (y.2.1 3))
  | 64 => .inl (0, 8, .inl (y.2.1 4))
  | 65 => .inl (1, 800, .inr (.inl y.2.2.2.1))
  | 66 => .inl (0, 51, .inl (y.2.1 5))
  | 67 => .inl (0, 51, .inl (y.2.1 6))
  | 68 => .inl (0, 204, .inl (y.2.1 7))
  | 69 => .inl (0, 68, .inl (y.2.1 8))
  | 70 => .inl (0, 68, .inl (y.2.1 9))
  | 71 => .inl (0, 9, .inl (y.2.1 10))
  | 72 => .inl (0, 8, .inl (y.2.1 11))
  | 73 => .inl (1, 100, .inr (.inl y.2.2.2.2.1))
  | i => w i
theorem yint_1 (y : aY) (a : Nat) (x : Int32) (z : Nat) : (yint y a x).1 z = if z = a then x else y.1 z := rfl
theorem yint_2 (y : aY) (a : Nat) (x : Int32) : (yint y a x).2 = y.2 := rfl
theorem yset_1 (y : aY) (k i : Nat) (x : Int32) : (yset y k i x).1 = y.1 := rfl
theorem yset_22 (y : aY) (k i : Nat) (x : Int32) : (yset y k i x).2.2 = y.2.2 := rfl
theorem yset_21 (y : aY) (k i : Nat) (x : Int32) (k' i' : Nat) : (yset y k i x).2.1 k' i' = if k' = k ∧ i' = i then x else y.2.1 k' i' := by
  unfold yset yarr upd
  by_cases h : k' = k
  · subst h; by_cases h2 : i' = i <;> simp [h2]
  · simp [h]
theorem mix_upd {n i : Nat} (f g : Nat → Int32) (x : Int32) (h : i < n) : upd (mix n f g) i x = mix n (upd f i x) g := by
  funext z
  unfold upd mix
  by_cases hz : z = i
  · subst hz; simp [h]
  · simp [hz]
theorem mix_updj {n i : Nat} (f g : Nat → Int32) (x : Int32) (h : n ≤ i) : upd (mix n f g) i x = mix n f (upd g i x) := by
  funext z
  unfold upd mix
  by_cases hz : z = i
  · subst hz
    have : ¬ z < n := by omega
    simp [this]
  · simp [hz]
theorem mix_at {n i : Nat} (f g : Nat → Int32) (h : i < n) : mix n f g i = f i := if_pos h
theorem putY_moved (w : aW) (κ : aK) (y : aY) (x : Int32) : putY w (kint κ 2 x) y = putY w κ y := Eq.trans rfl rfl
theorem putY_obj (w : aW) (κ : aK) (y : aY) : putY w κ y 50 = .inr (3, yfl κ y) := rfl
theorem fld_Y (w : aW) (κ : aK) (y : aY) (k : Nat) : a_fld 3 (putY w κ y) 50 k = (yfl κ y)[k]? := rfl
theorem cV_Y {α : Type} (w : aW) (κ : aK) (y : aY) (x : Option α) : cV 3 (putY w κ y) 50 x = x := Eq.trans rfl rfl
theorem gI_Y0 (w : aW) (κ : aK) (y : aY) : gI 3 (putY w κ y) 50 0 = some (nI κ.1) := Eq.trans rfl rfl
theorem gR_Y1 (w : aW) (κ : aK) (y : aY) : gR 3 (putY w κ y) 50 1 = some 51 := Eq.trans rfl rfl
theorem gR_Y2 (w : aW) (κ : aK) (y : aY) : gR 3 (putY w κ y) 50 2 = some 52 := Eq.trans rfl rfl
theorem gR_Y3 (w : aW) (κ : aK) (y : aY) : gR 3 (putY w κ y) 50 3 = some 53 := Eq.trans rfl rfl
theorem gR_Y4 (w : aW) (κ : aK) (y : aY) : gR 3 (putY w κ y) 50 4 = some 54 := Eq.trans rfl rfl
theorem gR_Y5 (w : aW) (κ : aK) (y : aY) : gR 3 (putY w κ y) 50 5 = some 55 := Eq.trans rfl rfl
theorem gI_Y6 (w : aW) (κ : aK) (y : aY) : gI 3 (putY w κ y) 50 6 = some (κ.2.1 1) := Eq.trans rfl rfl
theorem gR_Y7 (w : aW) (κ : aK) (y : aY) : gR 3 (putY w κ y) 50 7 = some 56 := Eq.trans rfl rfl
theorem gR_Y8 (w : aW) (κ : aK) (y : aY) : gR 3 (putY w κ y) 50 8 = some 57 := Eq.trans rfl rfl
theorem gR_Y9 (w : aW) (κ : aK) (y : aY) : gR 3 (putY w κ y) 50 9 = some 58 := Eq.trans rfl rfl
theorem gR_Y10 (w : aW) (κ : aK) (y : aY) : gR 3 (putY w κ y) 50 10 = some 59 := Eq.trans rfl rfl
theorem gI_Y11 (w : aW) (κ : aK) (y : aY) : gI 3 (putY w κ y) 50 11 = some (κ.2.1 0) := Eq.trans rfl rfl
theorem gI_Y12 (w : aW) (κ : aK) (y : aY) : gI 3 (putY w κ y) 50 12 = some (y.1 0) := Eq.trans rfl rfl
theorem gR_Y13 (w : aW) (κ : aK) (y : aY) : gR 3 (putY w κ y) 50 13 = some 60 := Eq.trans rfl rfl
theorem gR_Y14 (w : aW) (κ : aK) (y : aY) : gR 3 (putY w κ y) 50 14 = some 61 := Eq.trans rfl rfl
theorem gR_Y15 (w : aW) (κ : aK) (y : aY) : gR 3 (putY w κ y) 50 15 = some 62 := Eq.trans rfl rfl
theorem gR_Y16 (w : aW) (κ : aK) (y : aY) : gR 3 (putY w κ y) 50 16 = some 63 := Eq.trans rfl rfl
theorem gR_Y17 (w : aW) (κ : aK) (y : aY) : gR 3 (putY w κ y) 50 17 = some 64 := Eq.trans rfl rfl
theorem gR_Y18 (w : aW) (κ : aK) (y : aY) : gR 3 (putY w κ y) 50 18 = some 65 := Eq.trans rfl rfl
theorem gI_Y19 (w : aW) (κ : aK) (y : aY) : gI 3 (putY w κ y) 50 19 = some (y.1 1) := Eq.trans rfl rfl
theorem gI_Y20 (w : aW) (κ : aK) (y : aY) : gI 3 (putY w κ y) 50 20 = some (y.1 2) := Eq.trans rfl rfl
theorem gI_Y21 (w : aW) (κ : aK) (y : aY) : gI 3 (putY w κ y) 50 21 = some (y.1 3) := Eq.trans rfl rfl
theorem gI_Y22 (w : aW) (κ : aK) (y : aY) : gI 3 (putY w κ y) 50 22 = some (y.1 4) := Eq.trans rfl rfl
theorem gI_Y23 (w : aW) (κ : aK) (y : aY) : gI 3 (putY w κ y) 50 23 = some (y.1 5) := Eq.trans rfl rfl
theorem gR_Y24 (w : aW) (κ : aK) (y : aY) : gR 3 (putY w κ y) 50 24 = some 66 := Eq.trans rfl rfl
theorem gR_Y25 (w : aW) (κ : aK) (y : aY) : gR 3 (putY w κ y) 50 25 = some 67 := Eq.trans rfl rfl
theorem gR_Y26 (w : aW) (κ : aK) (y : aY) : gR 3 (putY w κ y) 50 26 = some 68 := Eq.trans rfl rfl
theorem gR_Y27 (w : aW) (κ : aK) (y : aY) : gR 3 (putY w κ y) 50 27 = some 69 := Eq.trans rfl rfl
theorem gR_Y28 (w : aW) (κ : aK) (y : aY) : gR 3 (putY w κ y) 50 28 = some 70 := Eq.trans rfl rfl
theorem gI_Y29 (w : aW) (κ : aK) (y : aY) : gI 3 (putY w κ y) 50 29 = some (y.1 6) := Eq.trans rfl rfl
theorem gI_Y30 (w : aW) (κ : aK) (y : aY) : gI 3 (putY w κ y) 50 30 = some (y.1 7) := Eq.trans rfl rfl
theorem gI_Y31 (w : aW) (κ : aK) (y : aY) : gI 3 (putY w κ y) 50 31 = some (y.1 8) := Eq.trans rfl rfl
theorem gR_Y33 (w : aW) (κ : aK) (y : aY) : gR 3 (putY w κ y) 50 33 = some 71 := Eq.trans rfl rfl
theorem gR_Y34 (w : aW) (κ : aK) (y : aY) : gR 3 (putY w κ y) 50 34 = some 72 := Eq.trans rfl rfl
theorem gI_Y35 (w : aW) (κ : aK) (y : aY) : gI 3 (putY w κ y) 50 35 = some (y.1 9) := Eq.trans rfl rfl
theorem gR_Y36 (w : aW) (κ : aK) (y : aY) : gR 3 (putY w κ y) 50 36 = some 73 := Eq.trans rfl rfl
theorem gR_Y32 (w : aW) (κ : aK) (y : aY) {r : Nat} (h : y.2.2.2.2.2 = some r) : gR 3 (putY w κ y) 50 32 = some r := by
  unfold gR
  rw [fld_Y]
  show (match some (va_rf y.2.2.2.2.2) with | some (.ref x) => some x | _ => none) = _
  rw [h]
  rfl
/-- a cell of the model's is put anew -/
theorem putY_eq {w w' : aW} {κ : aK} {y : aY} (h : ∀ i, w' i = putY w κ y i) : w' = putY w κ y := funext h
theorem sF_Y6 (w : aW) (κ : aK) (y : aY) (x : Int32) : sF 3 (putY w κ y) 50 6 (.int x) = some (putY w (kint κ 1 x) y) := by
  show some (a_up (putY w κ y) 50 (.inr (3, (yfl κ y).set 6 (.int x)))) = _
  congr 1
  funext i
  unfold a_up
  by_cases hi : i = 50
  · subst hi; rfl
  · rw [if_neg hi]
    unfold putY
    split <;> first | rfl | exact absurd rfl hi
theorem sF_Y11 (w : aW) (κ : aK) (y : aY) (x : Int32) : sF 3 (putY w κ y) 50 11 (.int x) = some (putY w (kint κ 0 x) y) := by
  show some (a_up (putY w κ y) 50 (.inr (3, (yfl κ y).set 11 (.int x)))) = _
  congr 1
  funext i
  unfold a_up
  by_cases hi : i = 50
  · subst hi; rfl
  · rw [if_neg hi]
    unfold putY
    split <;> first | rfl | exact absurd rfl hi
theorem sF_Y12 (w : aW) (κ : aK) (y : aY) (x : Int32) : sF 3 (putY w κ y) 50 12 (.int x) = some (putY w κ (yint y 0 x)) := by
  show some (a_up (putY w κ y) 50 (.inr (3, (yfl κ y).set 12 (.int x)))) = _
  congr 1
  funext i
  unfold a_up
  by_cases hi : i = 50
  · subst hi; rfl
  · rw [if_neg hi]
    unfold putY
    split <;> first | rfl | exact absurd rfl hi
theorem sF_Y19 (w : aW) (κ : aK) (y : aY) (x : Int32) : sF 3 (putY w κ y) 50 19 (.int x) = some (putY w κ (yint y 1 x)) := by
  show some (a_up (putY w κ y) 50 (.inr (3, (yfl κ y).set 19 (.int x)))) = _
  congr 1
  funext i
  unfold a_up
  by_cases hi : i = 50
  · subst hi; rfl
  · rw [if_neg hi]
    unfold putY
    split <;> first | rfl | exact absurd rfl hi
theorem sF_Y20 (w : aW) (κ : aK) (y : aY) (x : Int32) : sF 3 (putY w κ y) 50 20 (.int x) = some (putY w κ (yint y 2 x)) := by
  show some (a_up (putY w κ y) 50 (.inr (3, (yfl κ y).set 20 (.int x)))) = _
  congr 1
  funext i
  unfold a_up
  by_cases hi : i = 50
  · subst hi; rfl
  · rw [if_neg hi]
    unfold putY
    split <;> first | rfl | exact absurd rfl hi
theorem sF_Y21 (w : aW) (κ : aK) (y : aY) (x : Int32) : sF 3 (putY w κ y) 50 21 (.int x) = some (putY w κ (yint y 3 x)) := by
  show some (a_up (putY w κ y) 50 (.inr (3, (yfl κ y).set 21 (.int x)))) = _
  congr 1
  funext i
  unfold a_up
  by_cases hi : i = 50
  · subst hi; rfl
  · rw [if_neg hi]
    unfold putY
    split <;> first | rfl | exact absurd rfl hi
theorem sF_Y22 (w : aW) (κ : aK) (y : aY) (x : Int32) : sF 3 (putY w κ y) 50 22 (.int x) = some (putY w κ (yint y 4 x)) := by
  show some (a_up (putY w κ y) 50 (.inr (3, (yfl κ y).set 22 (.int x)))) = _
  congr 1
  funext i
  unfold a_up
  by_cases hi : i = 50
  · subst hi; rfl
  · rw [if_neg hi]
    unfold putY
    split <;> first | rfl | exact absurd rfl hi
theorem sF_Y23 (w : aW) (κ : aK) (y : aY) (x : Int32) : sF 3 (putY w κ y) 50 23 (.int x) = some (putY w κ (yint y 5 x)) := by
  show some (a_up (putY w κ y) 50 (.inr (3, (yfl κ y).set 23 (.int x)))) = _
  congr 1
  funext i
  unfold a_up
  by_cases hi : i = 50
  · subst hi; rfl
  · rw [if_neg hi]
    unfold putY
    split <;> first | rfl | exact absurd rfl hi
theorem sF_Y29 (w : aW) (κ : aK) (y : aY) (x : Int32) : sF 3 (putY w κ y) 50 29 (.int x) = some (putY w κ (yint y 6 x)) := by
  show some (a_up (putY w κ y) 50 (.inr (3, (yfl κ y).set 29 (.int x)))) = _
  congr 1
  funext i
  unfold a_up
  by_cases hi : i = 50
  · subst hi; rfl
  · rw [if_neg hi]
    unfold putY
    split <;> first | rfl | exact absurd rfl hi
theorem sF_Y30 (w : aW) (κ : aK) (y : aY) (x : Int32) : sF 3 (putY w κ y) 50 30 (.int x) = some (putY w κ (yint y 7 x)) := by
  show some (a_up (putY w κ y) 50 (.inr (3, (yfl κ y).set 30 (.int x)))) = _
  congr 1
  funext i
  unfold a_up
  by_cases hi : i = 50
  · subst hi; rfl
  · rw [if_neg hi]
    unfold putY
    split <;> first | rfl | exact absurd rfl hi
theorem sF_Y31 (w : aW) (κ : aK) (y : aY) (x : Int32) : sF 3 (putY w κ y) 50 31 (.int x) = some (putY w κ (yint y 8 x)) := by
  show some (a_up (putY w κ y) 50 (.inr (3, (yfl κ y).set 31 (.int x)))) = _
  congr 1
  funext i
  unfold a_up
  by_cases hi : i = 50
  · subst hi; rfl
  · rw [if_neg hi]
    unfold putY
    split <;> first | rfl | exact absurd rfl hi
theorem sF_Y35 (w : aW) (κ : aK) (y : aY) (x : Int32) : sF 3 (putY w κ y) 50 35 (.int x) = some (putY w κ (yint y 9 x)) := by
  show some (a_up (putY w κ y) 50 (.inr (3, (yfl κ y).set 35 (.int x)))) = _
  congr 1
  funext i
  unfold a_up
  by_cases hi : i = 50
  · subst hi; rfl
  · rw [if_neg hi]
    unfold putY
    split <;> first | rfl | exact absurd rfl hi
theorem sF_Y32 (w : aW) (κ : aK) (y : aY) (r : Nat) : sF 3 (putY w κ y) 50 32 (.ref r) = some (putY w κ (ykin y r)) := by
  show some (a_up (putY w κ y) 50 (.inr (3, (yfl κ y).set 32 (.ref r)))) = _
  congr 1
  funext i
  unfold a_up
  by_cases hi : i = 50
  · subst hi; rfl
  · rw [if_neg hi]
    unfold putY
    split <;> first | rfl | exact absurd rfl hi
/-- many becomes m: the rows stay -/
def kman (κ : aK) (y : aY) (m : Nat) : aK := (m, κ.2.1, fun k => if k < 5 then mix κ.1 (κ.2.2 k) (y.2.2.1 k) else κ.2.2 k)
def yman (κ : aK) (y : aY) : aY := (y.1, y.2.1, fun k => mix κ.1 (κ.2.2 k) (y.2.2.1 k), y.2.2.2)
theorem mix_self (n : Nat) (f : Nat → Int32) : mix n f f = f := by
  funext z
  unfold mix
  split <;> rfl
theorem sF_Y0 (w : aW) (κ : aK) (y : aY) (m : Nat) : sF 3 (putY w κ y) 50 0 (.int (nI m)) = some (putY w (kman κ y m) (yman κ y)) := by
  show some (a_up (putY w κ y) 50 (.inr (3, (yfl κ y).set 0 (.int (nI m))))) = _
  congr 1
  funext i
  unfold a_up
  by_cases hi : i = 50
  · subst hi; rfl
  · rw [if_neg hi]
    unfold putY
    split <;> first | rfl | exact absurd rfl hi | (show aC; exact .inr (0, [])) | (simp only [kman, yman]; first | rfl | (simp only [show (0:Nat) < 5 from by decide, show (1:Nat) < 5 from by decide, show (2:Nat) < 5 from by decide, show (3:Nat) < 5 from by decide, show (4:Nat) < 5 from by decide, if_true, mix_self]))
theorem ia_Y51 (w : aW) (κ : aK) (y : aY) : a_ia (putY w κ y) 51 = some (9, (mix κ.1 (κ.2.2 0) (y.2.2.1 0))) := rfl
theorem up_Y51 (w : aW) (κ : aK) (y : aY) (f : Nat → Int32) : a_up (putY w κ y) 51 (.inl (0, 9, .inl (mix κ.1 f (y.2.2.1 0)))) = putY w (karr κ 0 f) y := by
  funext i
  unfold a_up
  by_cases hi : i = 51
  · subst hi; rfl
  · rw [if_neg hi]
    unfold putY
    split <;> first | rfl | exact absurd rfl hi
theorem upj_Y51 (w : aW) (κ : aK) (y : aY) (f : Nat → Int32) : a_up (putY w κ y) 51 (.inl (0, 9, .inl (mix κ.1 (κ.2.2 0) f))) = putY w κ (yjun y 0 f) := by
  funext i
  unfold a_up
  by_cases hi : i = 51
  · subst hi; rfl
  · rw [if_neg hi]
    unfold putY
    split <;> first | rfl | exact absurd rfl hi
theorem gA_Y51 (w : aW) (y : aY) {κ : aK} (hk : κ.1 ≤ 9) {i : Nat} (hi : i < κ.1) : gA (putY w κ y) 51 (nI i) = some (κ.2.2 0 i) := by
  unfold gA
  rw [ia_Y51]
  simp only [Option.bind_some]
  rw [if_neg (ix_ok (show i < 9 by omega) (by decide)), nI_clamp (by omega), mix_at _ _ hi]
theorem gm_Y51 (w : aW) (κ : aK) (y : aY) {i : Nat} (hi : i < 9) : gA (putY w κ y) 51 (nI i) = some (mix κ.1 (κ.2.2 0) (y.2.2.1 0) i) := by
  unfold gA
  rw [ia_Y51]
  simp only [Option.bind_some]
  rw [if_neg (ix_ok hi (by decide)), nI_clamp (by omega)]
theorem sA_Y51 (w : aW) (y : aY) {κ : aK} (hk : κ.1 ≤ 9) {i : Nat} (hi : i < κ.1) (x : Int32) : sA (putY w κ y) 51 (nI i) x = some (putY w (kset κ 0 i x) y) := by
  unfold sA
  rw [ia_Y51]
  simp only [Option.bind_some]
  rw [if_neg (ix_ok (show i < 9 by omega) (by decide)), nI_clamp (by omega), mix_upd _ _ _ hi, up_Y51]
  rfl
theorem sj_Y51 (w : aW) (κ : aK) (y : aY) {i : Nat} (h9 : i < 9) (hi : κ.1 ≤ i) (x : Int32) : sA (putY w κ y) 51 (nI i) x = some (putY w κ (yjun y 0 (upd (y.2.2.1 0) i x))) := by
  unfold sA
  rw [ia_Y51]
  simp only [Option.bind_some]
  rw [if_neg (ix_ok h9 (by decide)), nI_clamp (by omega), mix_updj _ _ _ hi, upj_Y51]
theorem ia_Y52 (w : aW) (κ : aK) (y : aY) : a_ia (putY w κ y) 52 = some (9, (mix κ.1 (κ.2.2 1) (y.2.2.1 1))) := rfl
theorem up_Y52 (w : aW) (κ : aK) (y : aY) (f : Nat → Int32) : a_up (putY w κ y) 52 (.inl (0, 9, .inl (mix κ.1 f (y.2.2.1 1)))) = putY w (karr κ 1 f) y := by
  funext i
  unfold a_up
  by_cases hi : i = 52
  · subst hi; rfl
  · rw [if_neg hi]
    unfold putY
    split <;> first | rfl | exact absurd rfl hi
theorem upj_Y52 (w : aW) (κ : aK) (y : aY) (f : Nat → Int32) : a_up (putY w κ y) 52 (.inl (0, 9, .inl (mix κ.1 (κ.2.2 1) f))) = putY w κ (yjun y 1 f) := by
  funext i
  unfold a_up
  by_cases hi : i = 52
  · subst hi; rfl
  · rw [if_neg hi]
    unfold putY
    split <;> first | rfl | exact absurd rfl hi
theorem gA_Y52 (w : aW) (y : aY) {κ : aK} (hk : κ.1 ≤ 9) {i : Nat} (hi : i < κ.1) : gA (putY w κ y) 52 (nI i) = some (κ.2.2 1 i) := by
  unfold gA
  rw [ia_Y52]
  simp only [Option.bind_some]
  rw [if_neg (ix_ok (show i < 9 by omega) (by decide)), nI_clamp (by omega), mix_at _ _ hi]
theorem gm_Y52 (w : aW) (κ : aK) (y : aY) {i : Nat} (hi : i < 9) : gA (putY w κ y) 52 (nI i) = some (mix κ.1 (κ.2.2 1) (y.2.2.1 1) i) := by
  unfold gA
  rw [ia_Y52]
  simp only [Option.bind_some]
  rw [if_neg (ix_ok hi (by decide)), nI_clamp (by omega)]
theorem sA_Y52 (w : aW) (y : aY) {κ : aK} (hk : κ.1 ≤ 9) {i : Nat} (hi : i < κ.1) (x : Int32) : sA (putY w κ y) 52 (nI i) x = some (putY w (kset κ 1 i x) y) := by
  unfold sA
  rw [ia_Y52]
  simp only [Option.bind_some]
  rw [if_neg (ix_ok (show i < 9 by omega) (by decide)), nI_clamp (by omega), mix_upd _ _ _ hi, up_Y52]
  rfl
theorem sj_Y52 (w : aW) (κ : aK) (y : aY) {i : Nat} (h9 : i < 9) (hi : κ.1 ≤ i) (x : Int32) : sA (putY w κ y) 52 (nI i) x = some (putY w κ (yjun y 1 (upd (y.2.2.1 1) i x))) := by
  unfold sA
  rw [ia_Y52]
  simp only [Option.bind_some]
  rw [if_neg (ix_ok h9 (by decide)), nI_clamp (by omega), mix_updj _ _ _ hi, upj_Y52]
theorem ia_Y53 (w : aW) (κ : aK) (y : aY) : a_ia (putY w κ y) 53 = some (9, (mix κ.1 (κ.2.2 2) (y.2.2.1 2))) := rfl
theorem up_Y53 (w : aW) (κ : aK) (y : aY) (f : Nat → Int32) : a_up (putY w κ y) 53 (.inl (0, 9, .inl (mix κ.1 f (y.2.2.1 2)))) = putY w (karr κ 2 f) y := by
  funext i
  unfold a_up
  by_cases hi : i = 53
  · subst hi; rfl
  · rw [if_neg hi]
    unfold putY
    split <;> first | rfl | exact absurd rfl hi
theorem upj_Y53 (w : aW) (κ : aK) (y : aY) (f : Nat → Int32) : a_up (putY w κ y) 53 (.inl (0, 9, .inl (mix κ.1 (κ.2.2 2) f))) = putY w κ (yjun y 2 f) := by
  funext i
  unfold a_up
  by_cases hi : i = 53
  · subst hi; rfl
  · rw [if_neg hi]
    unfold putY
    split <;> first | rfl | exact absurd rfl hi
theorem gA_Y53 (w : aW) (y : aY) {κ : aK} (hk : κ.1 ≤ 9) {i : Nat} (hi : i < κ.1) : gA (putY w κ y) 53 (nI i) = some (κ.2.2 2 i) := by
  unfold gA
  rw [ia_Y53]
  simp only [Option.bind_some]
  rw [if_neg (ix_ok (show i < 9 by omega) (by decide)), nI_clamp (by omega), mix_at _ _ hi]
theorem gm_Y53 (w : aW) (κ : aK) (y : aY) {i : Nat} (hi : i < 9) : gA (putY w κ y) 53 (nI i) = some (mix κ.1 (κ.2.2 2) (y.2.2.1 2) i) := by
  unfold gA
  rw [ia_Y53]
  simp only [Option.bind_some]
  rw [if_neg (ix_ok hi (by decide)), nI_clamp (by omega)]
theorem sA_Y53 (w : aW) (y : aY) {κ : aK} (hk : κ.1 ≤ 9) {i : Nat} (hi : i < κ.1) (x : Int32) : sA (putY w κ y) 53 (nI i) x = some (putY w (kset κ 2 i x) y) := by
  unfold sA
  rw [ia_Y53]
  simp only [Option.bind_some]
  rw [if_neg (ix_ok (show i < 9 by omega) (by decide)), nI_clamp (by omega), mix_upd _ _ _ hi, up_Y53]
  rfl
theorem sj_Y53 (w : aW) (κ : aK) (y : aY) {i : Nat} (h9 : i < 9) (hi : κ.1 ≤ i) (x : Int32) : sA (putY w κ y) 53 (nI i) x = some (putY w κ (yjun y 2 (upd (y.2.2.1 2) i x))) := by
  unfold sA
  rw [ia_Y53]
  simp only [Option.bind_some]
  rw [if_neg (ix_ok h9 (by decide)), nI_clamp (by omega), mix_updj _ _ _ hi, upj_Y53]
theorem ia_Y54 (w : aW) (κ : aK) (y : aY) : a_ia (putY w κ y) 54 = some (9, (mix κ.1 (κ.2.2 3) (y.2.2.1 3))) := rfl
theorem up_Y54 (w : aW) (κ : aK) (y : aY) (f : Nat → Int32) : a_up (putY w κ y) 54 (.inl (0, 9, .inl (mix κ.1 f (y.2.2.1 3)))) = putY w (karr κ 3 f) y := by
  funext i
  unfold a_up
  by_cases hi : i = 54
  · subst hi; rfl
  · rw [if_neg hi]
    unfold putY
    split <;> first | rfl | exact absurd rfl hi
theorem upj_Y54 (w : aW) (κ : aK) (y : aY) (f : Nat → Int32) : a_up (putY w κ y) 54 (.inl (0, 9, .inl (mix κ.1 (κ.2.2 3) f))) = putY w κ (yjun y 3 f) := by
  funext i
  unfold a_up
  by_cases hi : i = 54
  · subst hi; rfl
  · rw [if_neg hi]
    unfold putY
    split <;> first | rfl | exact absurd rfl hi
theorem gA_Y54 (w : aW) (y : aY) {κ : aK} (hk : κ.1 ≤ 9) {i : Nat} (hi : i < κ.1) : gA (putY w κ y) 54 (nI i) = some (κ.2.2 3 i) := by
  unfold gA
  rw [ia_Y54]
  simp only [Option.bind_some]
  rw [if_neg (ix_ok (show i < 9 by omega) (by decide)), nI_clamp (by omega), mix_at _ _ hi]
theorem gm_Y54 (w : aW) (κ : aK) (y : aY) {i : Nat} (hi : i < 9) : gA (putY w κ y) 54 (nI i) = some (mix κ.1 (κ.2.2 3) (y.2.2.1 3) i) := by
  unfold gA
  rw [ia_Y54]
  simp only [Option.bind_some]
  rw [if_neg (ix_ok hi (by decide)), nI_clamp (by omega)]
theorem sA_Y54 (w : aW) (y : aY) {κ : aK} (hk : κ.1 ≤ 9) {i : Nat} (hi : i < κ.1) (x : Int32) : sA (putY w κ y) 54 (nI i) x = some (putY w (kset κ 3 i x) y) := by
  unfold sA
  rw [ia_Y54]
  simp only [Option.bind_some]
  rw [if_neg (ix_ok (show i < 9 by omega) (by decide)), nI_clamp (by omega), mix_upd _ _ _ hi, up_Y54]
  rfl
theorem sj_Y54 (w : aW) (κ : aK) (y : aY) {i : Nat} (h9 : i < 9) (hi : κ.1 ≤ i) (x : Int32) : sA (putY w κ y) 54 (nI i) x = some (putY w κ (yjun y 3 (upd (y.2.2.1 3) i x))) := by
  unfold sA
  rw [ia_Y54]
  simp only [Option.bind_some]
  rw [if_neg (ix_ok h9 (by decide)), nI_clamp (by omega), mix_updj _ _ _ hi, upj_Y54]
theorem ia_Y55 (w : aW) (κ : aK) (y : aY) : a_ia (putY w κ y) 55 = some (9, (mix κ.1 (κ.2.2 4) (y.2.2.1 4))) := rfl
theorem up_Y55 (w : aW) (κ : aK) (y : aY) (f : Nat → Int32) : a_up (putY w κ y) 55 (.inl (0, 9, .inl (mix κ.1 f (y.2.2.1 4)))) = putY w (karr κ 4 f) y := by
  funext i
  unfold a_up
  by_cases hi : i = 55
  · subst hi; rfl
  · rw [if_neg hi]
    unfold putY
    split <;> first | rfl | exact absurd rfl hi
theorem upj_Y55 (w : aW) (κ : aK) (y : aY) (f : Nat → Int32) : a_up (putY w κ y) 55 (.inl (0, 9, .inl (mix κ.1 (κ.2.2 4) f))) = putY w κ (yjun y 4 f) := by
  funext i
  unfold a_up
  by_cases hi : i = 55
  · subst hi; rfl
  · rw [if_neg hi]
    unfold putY
    split <;> first | rfl | exact absurd rfl hi
theorem gA_Y55 (w : aW) (y : aY) {κ : aK} (hk : κ.1 ≤ 9) {i : Nat} (hi : i < κ.1) : gA (putY w κ y) 55 (nI i) = some (κ.2.2 4 i) := by
  unfold gA
  rw [ia_Y55]
  simp only [Option.bind_some]
  rw [if_neg (ix_ok (show i < 9 by omega) (by decide)), nI_clamp (by omega), mix_at _ _ hi]
theorem gm_Y55 (w : aW) (κ : aK) (y : aY) {i : Nat} (hi : i < 9) : gA (putY w κ y) 55 (nI i) = some (mix κ.1 (κ.2.2 4) (y.2.2.1 4) i) := by
  unfold gA
  rw [ia_Y55]
  simp only [Option.bind_some]
  rw [if_neg (ix_ok hi (by decide)), nI_clamp (by omega)]
theorem sA_Y55 (w : aW) (y : aY) {κ : aK} (hk : κ.1 ≤ 9) {i : Nat} (hi : i < κ.1) (x : Int32) : sA (putY w κ y) 55 (nI i) x = some (putY w (kset κ 4 i x) y) := by
  unfold sA
  rw [ia_Y55]
  simp only [Option.bind_some]
  rw [if_neg (ix_ok (show i < 9 by omega) (by decide)), nI_clamp (by omega), mix_upd _ _ _ hi, up_Y55]
  rfl
theorem sj_Y55 (w : aW) (κ : aK) (y : aY) {i : Nat} (h9 : i < 9) (hi : κ.1 ≤ i) (x : Int32) : sA (putY w κ y) 55 (nI i) x = some (putY w κ (yjun y 4 (upd (y.2.2.1 4) i x))) := by
  unfold sA
  rw [ia_Y55]
  simp only [Option.bind_some]
  rw [if_neg (ix_ok h9 (by decide)), nI_clamp (by omega), mix_updj _ _ _ hi, upj_Y55]
theorem ia_Y56 (w : aW) (κ : aK) (y : aY) : a_ia (putY w κ y) 56 = some (5, (tr 5 (κ.2.2 5))) := rfl
theorem up_Y56 (w : aW) (κ : aK) (y : aY) (f : Nat → Int32) : a_up (putY w κ y) 56 (.inl (0, 5, .inl (tr 5 f))) = putY w (karr κ 5 f) y := by
  funext i
  unfold a_up
  by_cases hi : i = 56
  · subst hi; rfl
  · rw [if_neg hi]
    unfold putY
    split <;> first | rfl | exact absurd rfl hi
theorem gA_Y56 (w : aW) (κ : aK) (y : aY) {i : Nat} (hi : i < 5) : gA (putY w κ y) 56 (nI i) = some (κ.2.2 5 i) := by
  unfold gA
  rw [ia_Y56]
  simp only [Option.bind_some]
  rw [if_neg (ix_ok hi (by decide)), nI_clamp (by omega), tr_at _ hi]
theorem sA_Y56 (w : aW) (κ : aK) (y : aY) {i : Nat} (hi : i < 5) (x : Int32) : sA (putY w κ y) 56 (nI i) x = some (putY w (kset κ 5 i x) y) := by
  unfold sA
  rw [ia_Y56]
  simp only [Option.bind_some]
  rw [if_neg (ix_ok hi (by decide)), nI_clamp (by omega), tr_upd _ _ hi, up_Y56]
  rfl
theorem ia_Y57 (w : aW) (κ : aK) (y : aY) : a_ia (putY w κ y) 57 = some (5, (tr 5 (κ.2.2 6))) := rfl
theorem up_Y57 (w : aW) (κ : aK) (y : aY) (f : Nat → Int32) : a_up (putY w κ y) 57 (.inl (0, 5, .inl (tr 5 f))) = putY w (karr κ 6 f) y := by
  funext i
  unfold a_up
  by_cases hi : i = 57
  · subst hi; rfl
  · rw [if_neg hi]
    unfold putY
    split <;> first | rfl | exact absurd rfl hi
theorem gA_Y57 (w : aW) (κ : aK) (y : aY) {i : Nat} (hi : i < 5) : gA (putY w κ y) 57 (nI i) = some (κ.2.2 6 i) := by
  unfold gA
  rw [ia_Y57]
  simp only [Option.bind_some]
  rw [if_neg (ix_ok hi (by decide)), nI_clamp (by omega), tr_at _ hi]
theorem sA_Y57 (w : aW) (κ : aK) (y : aY) {i : Nat} (hi : i < 5) (x : Int32) : sA (putY w κ y) 57 (nI i) x = some (putY w (kset κ 6 i x) y) := by
  unfold sA
  rw [ia_Y57]
  simp only [Option.bind_some]
  rw [if_neg (ix_ok hi (by decide)), nI_clamp (by omega), tr_upd _ _ hi, up_Y57]
  rfl
theorem ia_Y58 (w : aW) (κ : aK) (y : aY) : a_ia (putY w κ y) 58 = some (5, (tr 5 (κ.2.2 7))) := rfl
theorem up_Y58 (w : aW) (κ : aK) (y : aY) (f : Nat → Int32) : a_up (putY w κ y) 58 (.inl (0, 5, .inl (tr 5 f))) = putY w (karr κ 7 f) y := by
  funext i
  unfold a_up
  by_cases hi : i = 58
  · subst hi; rfl
  · rw [if_neg hi]
    unfold putY
    split <;> first | rfl | exact absurd rfl hi
theorem gA_Y58 (w : aW) (κ : aK) (y : aY) {i : Nat} (hi : i < 5) : gA (putY w κ y) 58 (nI i) = some (κ.2.2 7 i) := by
  unfold gA
  rw [ia_Y58]
  simp only [Option.bind_some]
  rw [if_neg (ix_ok hi (by decide)), nI_clamp (by omega), tr_at _ hi]
theorem sA_Y58 (w : aW) (κ : aK) (y : aY) {i : Nat} (hi : i < 5) (x : Int32) : sA (putY w κ y) 58 (nI i) x = some (putY w (kset κ 7 i x) y) := by
  unfold sA
  rw [ia_Y58]
  simp only [Option.bind_some]
  rw [if_neg (ix_ok hi (by decide)), nI_clamp (by omega), tr_upd _ _ hi, up_Y58]
  rfl
theorem ia_Y59 (w : aW) (κ : aK) (y : aY) : a_ia (putY w κ y) 59 = some (5, (tr 5 (κ.2.2 8))) := rfl
theorem up_Y59 (w : aW) (κ : aK) (y : aY) (f : Nat → Int32) : a_up (putY w κ y) 59 (.inl (0, 5, .inl (tr 5 f))) = putY w (karr κ 8 f) y := by
  funext i
  unfold a_up
  by_cases hi : i = 59
  · subst hi; rfl
  · rw [if_neg hi]
    unfold putY
    split <;> first | rfl | exact absurd rfl hi
theorem gA_Y59 (w : aW) (κ : aK) (y : aY) {i : Nat} (hi : i < 5) : gA (putY w κ y) 59 (nI i) = some (κ.2.2 8 i) := by
  unfold gA
  rw [ia_Y59]
  simp only [Option.bind_some]
  rw [if_neg (ix_ok hi (by decide)), nI_clamp (by omega), tr_at _ hi]
theorem sA_Y59 (w : aW) (κ : aK) (y : aY) {i : Nat} (hi : i < 5) (x : Int32) : sA (putY w κ y) 59 (nI i) x = some (putY w (kset κ 8 i x) y) := by
  unfold sA
  rw [ia_Y59]
  simp only [Option.bind_some]
  rw [if_neg (ix_ok hi (by decide)), nI_clamp (by omega), tr_upd _ _ hi, up_Y59]
  rfl
theorem ia_Y60 (w : aW) (κ : aK) (y : aY) : a_ia (putY w κ y) 60 = some (8, (y.2.1 0)) := rfl
theorem up_Y60 (w : aW) (κ : aK) (y : aY) (f : Nat → Int32) : a_up (putY w κ y) 60 (.inl (0, 8, .inl f)) = putY w κ (yarr y 0 f) := by
  funext i
  unfold a_up
  by_cases hi : i = 60
  · subst hi; rfl
  · rw [if_neg hi]
    unfold putY
    split <;> first | rfl | exact absurd rfl hi
theorem gA_Y60 (w : aW) (κ : aK) (y : aY) {i : Nat} (hi : i < 8) : gA (putY w κ y) 60 (nI i) = some (y.2.1 0 i) := by
  unfold gA
  rw [ia_Y60]
  simp only [Option.bind_some]
  rw [if_neg (ix_ok hi (by decide)), nI_clamp (by omega)]
theorem sA_Y60 (w : aW) (κ : aK) (y : aY) {i : Nat} (hi : i < 8) (x : Int32) : sA (putY w κ y) 60 (nI i) x = some (putY w κ (yset y 0 i x)) := by
  unfold sA
  rw [ia_Y60]
  simp only [Option.bind_some]
  rw [if_neg (ix_ok hi (by decide)), nI_clamp (by omega), up_Y60]
  rfl
theorem ia_Y61 (w : aW) (κ : aK) (y : aY) : a_ia (putY w κ y) 61 = some (8, (y.2.1 1)) := rfl
theorem up_Y61 (w : aW) (κ : aK) (y : aY) (f : Nat → Int32) : a_up (putY w κ y) 61 (.inl (0, 8, .inl f)) = putY w κ (yarr y 1 f) := by
  funext i
  unfold a_up
  by_cases hi : i = 61
  · subst hi; rfl
  · rw [if_neg hi]
    unfold putY
    split <;> first | rfl | exact absurd rfl hi
theorem gA_Y61 (w : aW) (κ : aK) (y : aY) {i : Nat} (hi : i < 8) : gA (putY w κ y) 61 (nI i) = some (y.2.1 1 i) := by
  unfold gA
  rw [ia_Y61]
  simp only [Option.bind_some]
  rw [if_neg (ix_ok hi (by decide)), nI_clamp (by omega)]
theorem sA_Y61 (w : aW) (κ : aK) (y : aY) {i : Nat} (hi : i < 8) (x : Int32) : sA (putY w κ y) 61 (nI i) x = some (putY w κ (yset y 1 i x)) := by
  unfold sA
  rw [ia_Y61]
  simp only [Option.bind_some]
  rw [if_neg (ix_ok hi (by decide)), nI_clamp (by omega), up_Y61]
  rfl
theorem ia_Y62 (w : aW) (κ : aK) (y : aY) : a_ia (putY w κ y) 62 = some (8, (y.2.1 2)) := rfl
theorem up_Y62 (w : aW) (κ : aK) (y : aY) (f : Nat → Int32) : a_up (putY w κ y) 62 (.inl (0, 8, .inl f)) = putY w κ (yarr y 2 f) := by
  funext i
  unfold a_up
  by_cases hi : i = 62
  · subst hi; rfl
  · rw [if_neg hi]
    unfold putY
    split <;> first | rfl | exact absurd rfl hi
theorem gA_Y62 (w : aW) (κ : aK) (y : aY) {i : Nat} (hi : i < 8) : gA (putY w κ y) 62 (nI i) = some (y.2.1 2 i) := by
  unfold gA
  rw [ia_Y62]
  simp only [Option.bind_some]
  rw [if_neg (ix_ok hi (by decide)), nI_clamp (by omega)]
theorem sA_Y62 (w : aW) (κ : aK) (y : aY) {i : Nat} (hi : i < 8) (x : Int32) : sA (putY w κ y) 62 (nI i) x = some (putY w κ (yset y 2 i x)) := by
  unfold sA
  rw [ia_Y62]
  simp only [Option.bind_some]
  rw [if_neg (ix_ok hi (by decide)), nI_clamp (by omega), up_Y62]
  rfl
theorem ia_Y63 (w : aW) (κ : aK) (y : aY) : a_ia (putY w κ y) 63 = some (8, (y.2.1 3)) := rfl
theorem up_Y63 (w : aW) (κ : aK) (y : aY) (f : Nat → Int32) : a_up (putY w κ y) 63 (.inl (0, 8, .inl f)) = putY w κ (yarr y 3 f) := by
  funext i
  unfold a_up
  by_cases hi : i = 63
  · subst hi; rfl
  · rw [if_neg hi]
    unfold putY
    split <;> first | rfl | exact absurd rfl hi
theorem gA_Y63 (w : aW) (κ : aK) (y : aY) {i : Nat} (hi : i < 8) : gA (putY w κ y) 63 (nI i) = some (y.2.1 3 i) := by
  unfold gA
  rw [ia_Y63]
  simp only [Option.bind_some]
  rw [if_neg (ix_ok hi (by decide)), nI_clamp (by omega)]
theorem sA_Y63 (w : aW) (κ : aK) (y : aY) {i : Nat} (hi : i < 8) (x : Int32) : sA (putY w κ y) 63 (nI i) x = some (putY w κ (yset y 3 i x)) := by
  unfold sA
  rw [ia_Y63]
  simp only [Option.bind_some]
  rw [if_neg (ix_ok hi (by decide)), nI_clamp (by omega), up_Y63]
  rfl
theorem ia_Y64 (w : aW) (κ : aK) (y : aY) : a_ia (putY w κ y) 64 = some (8, (y.2.1 4)) := rfl
theorem up_Y64 (w : aW) (κ : aK) (y : aY) (f : Nat → Int32) : a_up (putY w κ y) 64 (.inl (0, 8, .inl f)) = putY w κ (yarr y 4 f) := by
  funext i
  unfold a_up
  by_cases hi : i = 64
  · subst hi; rfl
  · rw [if_neg hi]
    unfold putY
    split <;> first | rfl | exact absurd rfl hi
theorem gA_Y64 (w : aW) (κ : aK) (y : aY) {i : Nat} (hi : i < 8) : gA (putY w κ y) 64 (nI i) = some (y.2.1 4 i) := by
  unfold gA
  rw [ia_Y64]
  simp only [Option.bind_some]
  rw [if_neg (ix_ok hi (by decide)), nI_clamp (by omega)]
theorem sA_Y64 (w : aW) (κ : aK) (y : aY) {i : Nat} (hi : i < 8) (x : Int32) : sA (putY w κ y) 64 (nI i) x = some (putY w κ (yset y 4 i x)) := by
  unfold sA
  rw [ia_Y64]
  simp only [Option.bind_some]
  rw [if_neg (ix_ok hi (by decide)), nI_clamp (by omega), up_Y64]
  rfl
theorem la_Y65 (w : aW) (κ : aK) (y : aY) : a_la (putY w κ y) 65 = some (800, y.2.2.2.1) := rfl
theorem up_Y65 (w : aW) (κ : aK) (y : aY) (f : Nat → Int64) : a_up (putY w κ y) 65 (.inl (1, 800, .inr (.inl f))) = putY w κ (yrow y f) := by
  funext i
  unfold a_up
  by_cases hi : i = 65
  · subst hi; rfl
  · rw [if_neg hi]
    unfold putY
    split <;> first | rfl | exact absurd rfl hi
theorem gL_Y65 (w : aW) (κ : aK) (y : aY) {i : Nat} (hi : i < 800) : gL (putY w κ y) 65 (nI i) = some (y.2.2.2.1 i) := by
  unfold gL
  rw [la_Y65]
  simp only [Option.bind_some]
  rw [if_neg (ix_ok hi (by decide)), nI_clamp (by omega)]
theorem sL_Y65 (w : aW) (κ : aK) (y : aY) {i : Nat} (hi : i < 800) (x : Int64) : sL (putY w κ y) 65 (nI i) x = some (putY w κ (yrow y (vp_updL y.2.2.2.1 i x))) := by
  unfold sL
  rw [la_Y65]
  simp only [Option.bind_some]
  rw [if_neg (ix_ok hi (by decide)), nI_clamp (by omega), up_Y65]
theorem ia_Y66 (w : aW) (κ : aK) (y : aY) : a_ia (putY w κ y) 66 = some (51, (y.2.1 5)) := rfl
theorem up_Y66 (w : aW) (κ : aK) (y : aY) (f : Nat → Int32) : a_up (putY w κ y) 66 (.inl (0, 51, .inl f)) = putY w κ (yarr y 5 f) := by
  funext i
  unfold a_up
  by_cases hi : i = 66
  · subst hi; rfl
  · rw [if_neg hi]
    unfold putY
    split <;> first | rfl | exact absurd rfl hi
theorem gA_Y66 (w : aW) (κ : aK) (y : aY) {i : Nat} (hi : i < 51) : gA (putY w κ y) 66 (nI i) = some (y.2.1 5 i) := by
  unfold gA
  rw [ia_Y66]
  simp only [Option.bind_some]
  rw [if_neg (ix_ok hi (by decide)), nI_clamp (by omega)]
theorem sA_Y66 (w : aW) (κ : aK) (y : aY) {i : Nat} (hi : i < 51) (x : Int32) : sA (putY w κ y) 66 (nI i) x = some (putY w κ (yset y 5 i x)) := by
  unfold sA
  rw [ia_Y66]
  simp only [Option.bind_some]
  rw [if_neg (ix_ok hi (by decide)), nI_clamp (by omega), up_Y66]
  rfl
theorem ia_Y67 (w : aW) (κ : aK) (y : aY) : a_ia (putY w κ y) 67 = some (51, (y.2.1 6)) := rfl
theorem up_Y67 (w : aW) (κ : aK) (y : aY) (f : Nat → Int32) : a_up (putY w κ y) 67 (.inl (0, 51, .inl f)) = putY w κ (yarr y 6 f) := by
  funext i
  unfold a_up
  by_cases hi : i = 67
  · subst hi; rfl
  · rw [if_neg hi]
    unfold putY
    split <;> first | rfl | exact absurd rfl hi
theorem gA_Y67 (w : aW) (κ : aK) (y : aY) {i : Nat} (hi : i < 51) : gA (putY w κ y) 67 (nI i) = some (y.2.1 6 i) := by
  unfold gA
  rw [ia_Y67]
  simp only [Option.bind_some]
  rw [if_neg (ix_ok hi (by decide)), nI_clamp (by omega)]
theorem sA_Y67 (w : aW) (κ : aK) (y : aY) {i : Nat} (hi : i < 51) (x : Int32) : sA (putY w κ y) 67 (nI i) x = some (putY w κ (yset y 6 i x)) := by
  unfold sA
  rw [ia_Y67]
  simp only [Option.bind_some]
  rw [if_neg (ix_ok hi (by decide)), nI_clamp (by omega), up_Y67]
  rfl
theorem ia_Y68 (w : aW) (κ : aK) (y : aY) : a_ia (putY w κ y) 68 = some (204, (y.2.1 7)) := rfl
theorem up_Y68 (w : aW) (κ : aK) (y : aY) (f : Nat → Int32) : a_up (putY w κ y) 68 (.inl (0, 204, .inl f)) = putY w κ (yarr y 7 f) := by
  funext i
  unfold a_up
  by_cases hi : i = 68
  · subst hi; rfl
  · rw [if_neg hi]
    unfold putY
    split <;> first | rfl | exact absurd rfl hi
theorem gA_Y68 (w : aW) (κ : aK) (y : aY) {i : Nat} (hi : i < 204) : gA (putY w κ y) 68 (nI i) = some (y.2.1 7 i) := by
  unfold gA
  rw [ia_Y68]
  simp only [Option.bind_some]
  rw [if_neg (ix_ok hi (by decide)), nI_clamp (by omega)]
theorem sA_Y68 (w : aW) (κ : aK) (y : aY) {i : Nat} (hi : i < 204) (x : Int32) : sA (putY w κ y) 68 (nI i) x = some (putY w κ (yset y 7 i x)) := by
  unfold sA
  rw [ia_Y68]
  simp only [Option.bind_some]
  rw [if_neg (ix_ok hi (by decide)), nI_clamp (by omega), up_Y68]
  rfl
theorem ia_Y69 (w : aW) (κ : aK) (y : aY) : a_ia (putY w κ y) 69 = some (68, (y.2.1 8)) := rfl
theorem up_Y69 (w : aW) (κ : aK) (y : aY) (f : Nat → Int32) : a_up (putY w κ y) 69 (.inl (0, 68, .inl f)) = putY w κ (yarr y 8 f) := by
  funext i
  unfold a_up
  by_cases hi : i = 69
  · subst hi; rfl
  · rw [if_neg hi]
    unfold putY
    split <;> first | rfl | exact absurd rfl hi
theorem gA_Y69 (w : aW) (κ : aK) (y : aY) {i : Nat} (hi : i < 68) : gA (putY w κ y) 69 (nI i) = some (y.2.1 8 i) := by
  unfold gA
  rw [ia_Y69]
  simp only [Option.bind_some]
  rw [if_neg (ix_ok hi (by decide)), nI_clamp (by omega)]
theorem sA_Y69 (w : aW) (κ : aK) (y : aY) {i : Nat} (hi : i < 68) (x : Int32) : sA (putY w κ y) 69 (nI i) x = some (putY w κ (yset y 8 i x)) := by
  unfold sA
  rw [ia_Y69]
  simp only [Option.bind_some]
  rw [if_neg (ix_ok hi (by decide)), nI_clamp (by omega), up_Y69]
  rfl
theorem ia_Y70 (w : aW) (κ : aK) (y : aY) : a_ia (putY w κ y) 70 = some (68, (y.2.1 9)) := rfl
theorem up_Y70 (w : aW) (κ : aK) (y : aY) (f : Nat → Int32) : a_up (putY w κ y) 70 (.inl (0, 68, .inl f)) = putY w κ (yarr y 9 f) := by
  funext i
  unfold a_up
  by_cases hi : i = 70
  · subst hi; rfl
  · rw [if_neg hi]
    unfold putY
    split <;> first | rfl | exact absurd rfl hi
theorem gA_Y70 (w : aW) (κ : aK) (y : aY) {i : Nat} (hi : i < 68) : gA (putY w κ y) 70 (nI i) = some (y.2.1 9 i) := by
  unfold gA
  rw [ia_Y70]
  simp only [Option.bind_some]
  rw [if_neg (ix_ok hi (by decide)), nI_clamp (by omega)]
theorem sA_Y70 (w : aW) (κ : aK) (y : aY) {i : Nat} (hi : i < 68) (x : Int32) : sA (putY w κ y) 70 (nI i) x = some (putY w κ (yset y 9 i x)) := by
  unfold sA
  rw [ia_Y70]
  simp only [Option.bind_some]
  rw [if_neg (ix_ok hi (by decide)), nI_clamp (by omega), up_Y70]
  rfl
theorem ia_Y71 (w : aW) (κ : aK) (y : aY) : a_ia (putY w κ y) 71 = some (9, (y.2.1 10)) := rfl
theorem up_Y71 (w : aW) (κ : aK) (y : aY) (f : Nat → Int32) : a_up (putY w κ y) 71 (.inl (0, 9, .inl f)) = putY w κ (yarr y 10 f) := by
  funext i
  unfold a_up
  by_cases hi : i = 71
  · subst hi; rfl
  · rw [if_neg hi]
    unfold putY
    split <;> first | rfl | exact absurd rfl hi
theorem gA_Y71 (w : aW) (κ : aK) (y : aY) {i : Nat} (hi : i < 9) : gA (putY w κ y) 71 (nI i) = some (y.2.1 10 i) := by
  unfold gA
  rw [ia_Y71]
  simp only [Option.bind_some]
  rw [if_neg (ix_ok hi (by decide)), nI_clamp (by omega)]
theorem sA_Y71 (w : aW) (κ : aK) (y : aY) {i : Nat} (hi : i < 9) (x : Int32) : sA (putY w κ y) 71 (nI i) x = some (putY w κ (yset y 10 i x)) := by
  unfold sA
  rw [ia_Y71]
  simp only [Option.bind_some]
  rw [if_neg (ix_ok hi (by decide)), nI_clamp (by omega), up_Y71]
  rfl
theorem ia_Y72 (w : aW) (κ : aK) (y : aY) : a_ia (putY w κ y) 72 = some (8, (y.2.1 11)) := rfl
theorem up_Y72 (w : aW) (κ : aK) (y : aY) (f : Nat → Int32) : a_up (putY w κ y) 72 (.inl (0, 8, .inl f)) = putY w κ (yarr y 11 f) := by
  funext i
  unfold a_up
  by_cases hi : i = 72
  · subst hi; rfl
  · rw [if_neg hi]
    unfold putY
    split <;> first | rfl | exact absurd rfl hi
theorem gA_Y72 (w : aW) (κ : aK) (y : aY) {i : Nat} (hi : i < 8) : gA (putY w κ y) 72 (nI i) = some (y.2.1 11 i) := by
  unfold gA
  rw [ia_Y72]
  simp only [Option.bind_some]
  rw [if_neg (ix_ok hi (by decide)), nI_clamp (by omega)]
theorem sA_Y72 (w : aW) (κ : aK) (y : aY) {i : Nat} (hi : i < 8) (x : Int32) : sA (putY w κ y) 72 (nI i) x = some (putY w κ (yset y 11 i x)) := by
  unfold sA
  rw [ia_Y72]
  simp only [Option.bind_some]
  rw [if_neg (ix_ok hi (by decide)), nI_clamp (by omega), up_Y72]
  rfl
theorem la_Y73 (w : aW) (κ : aK) (y : aY) : a_la (putY w κ y) 73 = some (100, y.2.2.2.2.1) := rfl
theorem up_Y73 (w : aW) (κ : aK) (y : aY) (f : Nat → Int64) : a_up (putY w κ y) 73 (.inl (1, 100, .inr (.inl f))) = putY w κ (ybet y f) := by
  funext i
  unfold a_up
  by_cases hi : i = 73
  · subst hi; rfl
  · rw [if_neg hi]
    unfold putY
    split <;> first | rfl | exact absurd rfl hi
theorem gL_Y73 (w : aW) (κ : aK) (y : aY) {i : Nat} (hi : i < 100) : gL (putY w κ y) 73 (nI i) = some (y.2.2.2.2.1 i) := by
  unfold gL
  rw [la_Y73]
  simp only [Option.bind_some]
  rw [if_neg (ix_ok hi (by decide)), nI_clamp (by omega)]
theorem sL_Y73 (w : aW) (κ : aK) (y : aY) {i : Nat} (hi : i < 100) (x : Int64) : sL (putY w κ y) 73 (nI i) x = some (putY w κ (ybet y (vp_updL y.2.2.2.2.1 i x))) := by
  unfold sL
  rw [la_Y73]
  simp only [Option.bind_some]
  rw [if_neg (ix_ok hi (by decide)), nI_clamp (by omega), up_Y73]
