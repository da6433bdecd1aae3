def wO : aW := fun _ => .inl (1, 1, .inr (.inl (fun _ => 0)))
theorem tr_z (n : Nat) : tr n (fun _ => 0) = fun _ => 0 := by
  funext i
  unfold tr
  by_cases h : i < n
  · rw [if_pos h]
  · rw [if_neg h]
theorem mix_z (f : Nat → Int32) : mix 0 f (fun _ => 0) = fun _ => 0 := by
  funext i
  unfold mix
  rw [if_neg (by omega)]
theorem tr_i (n : Nat) (g : Nat → Int32) : tr n (fun j => if j < n then g j else 0) = fun j => if j < n then g j else 0 := by
  funext i
  unfold tr
  by_cases h : i < n
  · rw [if_pos h]
  · rw [if_neg h]
    show 0 = if i < n then g i else 0
    rw [if_neg h]
def adL (b x a0 a1 a2 : Nat) (m0 m1 m2 : Nat → Nat) (qs qo qt : Nat) (s e : Nat → Nat) (y : Nat) (q : Nat → Nat) (z : Nat) : Nat → Nat := fun k => if k = 75 then b else ((((wsX3 (fun _ => 0) x a0 a1 a2 m0 m1 m2 qs qo qt s e 8 ++ wsX4 (fun _ => 0) y q (fun _ => 0) (fun _ => 0)) ++ [(z, (.inl (0, 1, .inr (.inl (fun _ => 0))) : va_E))])[k]?).map Prod.fst).getD 0
theorem shl_8 (s : Nat → Nat) (ad : Nat → Nat) (h : ∀ d, d < 8 → ad (34 + 2 * d) = s d) : shl s 8 = fun j => (shf j).map ad := by
  funext j
  unfold shf
  rcases Nat.lt_or_ge j 8 with hj | hj
  · rw [if_pos hj]
    show _ = some (ad (34 + 2 * j))
    rw [h j hj]
    rcases (show j = 0 ∨ j = 1 ∨ j = 2 ∨ j = 3 ∨ j = 4 ∨ j = 5 ∨ j = 6 ∨ j = 7 by omega) with rfl | rfl | rfl | rfl | rfl | rfl | rfl | rfl <;> rfl
  · rw [if_neg (by omega)]
    have key : ∀ n, n ≤ 8 → shl s n j = none := by
      intro n
      induction n with
      | zero => intro _; rfl
      | succ n ih =>
        intro hn
        show va_up (shl s n) (nI n).toNatClampNeg (some (s n)) j = none
        rw [nI_clamp (show n < 2 ^ 31 by omega)]
        unfold va_up
        rw [if_neg (show ¬ j = n by omega)]
        exact ih (by omega)
    exact key 8 (Nat.le_refl 8)

set_option maxHeartbeats 8000000 in
theorem w0_0 (ca : Nat → Nat) (b x a0 a1 a2 : Nat) (m0 m1 m2 : Nat → Nat) (qs qo qt : Nat) (s e : Nat → Nat) (y : Nat) (q : Nat → Nat) (z : Nat) {i : Nat} (h1 : 0 ≤ i) (h2 : i < 12) : ((wsX3 ca x a0 a1 a2 m0 m1 m2 qs qo qt s e 8 ++ wsX4 ca y q (fun j => if j < 5 then g40 j else 0) (fun j => if j < 5 then g3 j else 0)) ++ [(z, .inl (ca 1, 1, .inr (.inl (fun _ => 0))))])[i]? = some (adL b x a0 a1 a2 m0 m1 m2 qs qo qt s e y q z i, a_e (adL b x a0 a1 a2 m0 m1 m2 qs qo qt s e y q z) ca (Wd wO X00 Y00 i)) := by
  rcases (show i = 0 ∨ i = 1 ∨ i = 2 ∨ i = 3 ∨ i = 4 ∨ i = 5 ∨ i = 6 ∨ i = 7 ∨ i = 8 ∨ i = 9 ∨ i = 10 ∨ i = 11 by omega) with rfl | rfl | rfl | rfl | rfl | rfl | rfl | rfl | rfl | rfl | rfl | rfl
  · rfl
  · rfl
  · exact congrArg (fun f => some (_, Sum.inl (ca 0, 9, Sum.inl f))) (tr_z 9).symm
  · exact congrArg (fun f => some (_, Sum.inl (ca 0, 9, Sum.inl f))) (tr_z 9).symm
  · exact congrArg (fun f => some (_, Sum.inl (ca 0, 9, Sum.inl f))) (tr_z 9).symm
  · exact congrArg (fun f => some (_, Sum.inl (ca 0, 9, Sum.inl f))) (tr_z 9).symm
  · exact congrArg (fun f => some (_, Sum.inl (ca 0, 9, Sum.inl f))) (tr_i 9 g4).symm
  · exact congrArg (fun f => some (_, Sum.inl (ca 0, 5, Sum.inl f))) (tr_i 5 g40).symm
  · exact congrArg (fun f => some (_, Sum.inl (ca 0, 5, Sum.inl f))) (tr_i 5 g3).symm
  · exact congrArg (fun f => some (_, Sum.inl (ca 0, 5, Sum.inl f))) (tr_z 5).symm
  · exact congrArg (fun f => some (_, Sum.inl (ca 0, 5, Sum.inl f))) (tr_z 5).symm
  · rfl
set_option maxHeartbeats 8000000 in
theorem w0_12 (ca : Nat → Nat) (b x a0 a1 a2 : Nat) (m0 m1 m2 : Nat → Nat) (qs qo qt : Nat) (s e : Nat → Nat) (y : Nat) (q : Nat → Nat) (z : Nat) {i : Nat} (h1 : 12 ≤ i) (h2 : i < 24) : ((wsX3 ca x a0 a1 a2 m0 m1 m2 qs qo qt s e 8 ++ wsX4 ca y q (fun j => if j < 5 then g40 j else 0) (fun j => if j < 5 then g3 j else 0)) ++ [(z, .inl (ca 1, 1, .inr (.inl (fun _ => 0))))])[i]? = some (adL b x a0 a1 a2 m0 m1 m2 qs qo qt s e y q z i, a_e (adL b x a0 a1 a2 m0 m1 m2 qs qo qt s e y q z) ca (Wd wO X00 Y00 i)) := by
  rcases (show i = 12 ∨ i = 13 ∨ i = 14 ∨ i = 15 ∨ i = 16 ∨ i = 17 ∨ i = 18 ∨ i = 19 ∨ i = 20 ∨ i = 21 ∨ i = 22 ∨ i = 23 by omega) with rfl | rfl | rfl | rfl | rfl | rfl | rfl | rfl | rfl | rfl | rfl | rfl
  · exact congrArg (fun f => some (_, Sum.inl (ca 0, 9, Sum.inl f))) (tr_z 9).symm
  · exact congrArg (fun f => some (_, Sum.inl (ca 0, 9, Sum.inl f))) (tr_z 9).symm
  · exact congrArg (fun f => some (_, Sum.inl (ca 0, 9, Sum.inl f))) (tr_z 9).symm
  · exact congrArg (fun f => some (_, Sum.inl (ca 0, 9, Sum.inl f))) (tr_z 9).symm
  · exact congrArg (fun f => some (_, Sum.inl (ca 0, 9, Sum.inl f))) (tr_i 9 g4).symm
  · exact congrArg (fun f => some (_, Sum.inl (ca 0, 5, Sum.inl f))) (tr_i 5 g40).symm
  · exact congrArg (fun f => some (_, Sum.inl (ca 0, 5, Sum.inl f))) (tr_i 5 g3).symm
  · exact congrArg (fun f => some (_, Sum.inl (ca 0, 5, Sum.inl f))) (tr_z 5).symm
  · exact congrArg (fun f => some (_, Sum.inl (ca 0, 5, Sum.inl f))) (tr_z 5).symm
  · rfl
  · exact congrArg (fun f => some (_, Sum.inl (ca 0, 9, Sum.inl f))) (tr_z 9).symm
  · exact congrArg (fun f => some (_, Sum.inl (ca 0, 9, Sum.inl f))) (tr_z 9).symm
set_option maxHeartbeats 8000000 in
theorem w0_24 (ca : Nat → Nat) (b x a0 a1 a2 : Nat) (m0 m1 m2 : Nat → Nat) (qs qo qt : Nat) (s e : Nat → Nat) (y : Nat) (q : Nat → Nat) (z : Nat) {i : Nat} (h1 : 24 ≤ i) (h2 : i < 34) : ((wsX3 ca x a0 a1 a2 m0 m1 m2 qs qo qt s e 8 ++ wsX4 ca y q (fun j => if j < 5 then g40 j else 0) (fun j => if j < 5 then g3 j else 0)) ++ [(z, .inl (ca 1, 1, .inr (.inl (fun _ => 0))))])[i]? = some (adL b x a0 a1 a2 m0 m1 m2 qs qo qt s e y q z i, a_e (adL b x a0 a1 a2 m0 m1 m2 qs qo qt s e y q z) ca (Wd wO X00 Y00 i)) := by
  rcases (show i = 24 ∨ i = 25 ∨ i = 26 ∨ i = 27 ∨ i = 28 ∨ i = 29 ∨ i = 30 ∨ i = 31 ∨ i = 32 ∨ i = 33 by omega) with rfl | rfl | rfl | rfl | rfl | rfl | rfl | rfl | rfl | rfl
  · exact congrArg (fun f => some (_, Sum.inl (ca 0, 9, Sum.inl f))) (tr_z 9).symm
  · exact congrArg (fun f => some (_, Sum.inl (ca 0, 9, Sum.inl f))) (tr_z 9).symm
  · exact congrArg (fun f => some (_, Sum.inl (ca 0, 9, Sum.inl f))) (tr_i 9 g4).symm
  · exact congrArg (fun f => some (_, Sum.inl (ca 0, 5, Sum.inl f))) (tr_i 5 g40).symm
  · exact congrArg (fun f => some (_, Sum.inl (ca 0, 5, Sum.inl f))) (tr_i 5 g3).symm
  · exact congrArg (fun f => some (_, Sum.inl (ca 0, 5, Sum.inl f))) (tr_z 5).symm
  · exact congrArg (fun f => some (_, Sum.inl (ca 0, 5, Sum.inl f))) (tr_z 5).symm
  · exact congrArg (fun f => some (_, Sum.inl (ca 2, 8, Sum.inr (Sum.inr (Sum.inr (Sum.inr f)))))) (shl_8 s _ (fun d hd => by rcases (show d = 0 ∨ d = 1 ∨ d = 2 ∨ d = 3 ∨ d = 4 ∨ d = 5 ∨ d = 6 ∨ d = 7 by omega) with rfl | rfl | rfl | rfl | rfl | rfl | rfl | rfl <;> rfl))
  · rfl
  · rfl
set_option maxHeartbeats 8000000 in
theorem w0_34 (ca : Nat → Nat) (b x a0 a1 a2 : Nat) (m0 m1 m2 : Nat → Nat) (qs qo qt : Nat) (s e : Nat → Nat) (y : Nat) (q : Nat → Nat) (z : Nat) {i : Nat} (h1 : 34 ≤ i) (h2 : i < 44) : ((wsX3 ca x a0 a1 a2 m0 m1 m2 qs qo qt s e 8 ++ wsX4 ca y q (fun j => if j < 5 then g40 j else 0) (fun j => if j < 5 then g3 j else 0)) ++ [(z, .inl (ca 1, 1, .inr (.inl (fun _ => 0))))])[i]? = some (adL b x a0 a1 a2 m0 m1 m2 qs qo qt s e y q z i, a_e (adL b x a0 a1 a2 m0 m1 m2 qs qo qt s e y q z) ca (Wd wO X00 Y00 i)) := by
  rcases (show i = 34 ∨ i = 35 ∨ i = 36 ∨ i = 37 ∨ i = 38 ∨ i = 39 ∨ i = 40 ∨ i = 41 ∨ i = 42 ∨ i = 43 by omega) with rfl | rfl | rfl | rfl | rfl | rfl | rfl | rfl | rfl | rfl
  · rfl
  · rfl
  · rfl
  · rfl
  · rfl
  · rfl
  · rfl
  · rfl
  · rfl
  · rfl
set_option maxHeartbeats 8000000 in
theorem w0_44 (ca : Nat → Nat) (b x a0 a1 a2 : Nat) (m0 m1 m2 : Nat → Nat) (qs qo qt : Nat) (s e : Nat → Nat) (y : Nat) (q : Nat → Nat) (z : Nat) {i : Nat} (h1 : 44 ≤ i) (h2 : i < 50) : ((wsX3 ca x a0 a1 a2 m0 m1 m2 qs qo qt s e 8 ++ wsX4 ca y q (fun j => if j < 5 then g40 j else 0) (fun j => if j < 5 then g3 j else 0)) ++ [(z, .inl (ca 1, 1, .inr (.inl (fun _ => 0))))])[i]? = some (adL b x a0 a1 a2 m0 m1 m2 qs qo qt s e y q z i, a_e (adL b x a0 a1 a2 m0 m1 m2 qs qo qt s e y q z) ca (Wd wO X00 Y00 i)) := by
  rcases (show i = 44 ∨ i = 45 ∨ i = 46 ∨ i = 47 ∨ i = 48 ∨ i = 49 by omega) with rfl | rfl | rfl | rfl | rfl | rfl
  · rfl
  · rfl
  · rfl
  · rfl
  · rfl
  · rfl
set_option maxHeartbeats 8000000 in
theorem w0_50 (ca : Nat → Nat) (b x a0 a1 a2 : Nat) (m0 m1 m2 : Nat → Nat) (qs qo qt : Nat) (s e : Nat → Nat) (y : Nat) (q : Nat → Nat) (z : Nat) {i : Nat} (h1 : 50 ≤ i) (h2 : i < 53) : ((wsX3 ca x a0 a1 a2 m0 m1 m2 qs qo qt s e 8 ++ wsX4 ca y q (fun j => if j < 5 then g40 j else 0) (fun j => if j < 5 then g3 j else 0)) ++ [(z, .inl (ca 1, 1, .inr (.inl (fun _ => 0))))])[i]? = some (adL b x a0 a1 a2 m0 m1 m2 qs qo qt s e y q z i, a_e (adL b x a0 a1 a2 m0 m1 m2 qs qo qt s e y q z) ca (Wd wO X00 Y00 i)) := by
  rcases (show i = 50 ∨ i = 51 ∨ i = 52 by omega) with rfl | rfl | rfl
  · rfl
  · exact congrArg (fun f => some (_, Sum.inl (ca 0, 9, Sum.inl f))) (mix_z _).symm
  · exact congrArg (fun f => some (_, Sum.inl (ca 0, 9, Sum.inl f))) (mix_z _).symm
set_option maxHeartbeats 8000000 in
theorem w0_53 (ca : Nat → Nat) (b x a0 a1 a2 : Nat) (m0 m1 m2 : Nat → Nat) (qs qo qt : Nat) (s e : Nat → Nat) (y : Nat) (q : Nat → Nat) (z : Nat) {i : Nat} (h1 : 53 ≤ i) (h2 : i < 56) : ((wsX3 ca x a0 a1 a2 m0 m1 m2 qs qo qt s e 8 ++ wsX4 ca y q (fun j => if j < 5 then g40 j else 0) (fun j => if j < 5 then g3 j else 0)) ++ [(z, .inl (ca 1, 1, .inr (.inl (fun _ => 0))))])[i]? = some (adL b x a0 a1 a2 m0 m1 m2 qs qo qt s e y q z i, a_e (adL b x a0 a1 a2 m0 m1 m2 qs qo qt s e y q z) ca (Wd wO X00 Y00 i)) := by
  rcases (show i = 53 ∨ i = 54 ∨ i = 55 by omega) with rfl | rfl | rfl
  · exact congrArg (fun f => some (_, Sum.inl (ca 0, 9, Sum.inl f))) (mix_z _).symm
  · exact congrArg (fun f => some (_, Sum.inl (ca 0, 9, Sum.inl f))) (mix_z _).symm
  · exact congrArg (fun f => some (_, Sum.inl (ca 0, 9, Sum.inl f))) (mix_z _).symm
set_option maxHeartbeats 8000000 in
theorem w0_56 (ca : Nat → Nat) (b x a0 a1 a2 : Nat) (m0 m1 m2 : Nat → Nat) (qs qo qt : Nat) (s e : Nat → Nat) (y : Nat) (q : Nat → Nat) (z : Nat) {i : Nat} (h1 : 56 ≤ i) (h2 : i < 60) : ((wsX3 ca x a0 a1 a2 m0 m1 m2 qs qo qt s e 8 ++ wsX4 ca y q (fun j => if j < 5 then g40 j else 0) (fun j => if j < 5 then g3 j else 0)) ++ [(z, .inl (ca 1, 1, .inr (.inl (fun _ => 0))))])[i]? = some (adL b x a0 a1 a2 m0 m1 m2 qs qo qt s e y q z i, a_e (adL b x a0 a1 a2 m0 m1 m2 qs qo qt s e y q z) ca (Wd wO X00 Y00 i)) := by
  rcases (show i = 56 ∨ i = 57 ∨ i = 58 ∨ i = 59 by omega) with rfl | rfl | rfl | rfl
  · exact congrArg (fun f => some (_, Sum.inl (ca 0, 5, Sum.inl f))) (tr_i 5 g40).symm
  · exact congrArg (fun f => some (_, Sum.inl (ca 0, 5, Sum.inl f))) (tr_i 5 g3).symm
  · exact congrArg (fun f => some (_, Sum.inl (ca 0, 5, Sum.inl f))) (tr_z 5).symm
  · exact congrArg (fun f => some (_, Sum.inl (ca 0, 5, Sum.inl f))) (tr_z 5).symm
set_option maxHeartbeats 8000000 in
theorem w0_60 (ca : Nat → Nat) (b x a0 a1 a2 : Nat) (m0 m1 m2 : Nat → Nat) (qs qo qt : Nat) (s e : Nat → Nat) (y : Nat) (q : Nat → Nat) (z : Nat) {i : Nat} (h1 : 60 ≤ i) (h2 : i < 65) : ((wsX3 ca x a0 a1 a2 m0 m1 m2 qs qo qt s e 8 ++ wsX4 ca y q (fun j => if j < 5 then g40 j else 0) (fun j => if j < 5 then g3 j else 0)) ++ [(z, .inl (ca 1, 1, .inr (.inl (fun _ => 0))))])[i]? = some (adL b x a0 a1 a2 m0 m1 m2 qs qo qt s e y q z i, a_e (adL b x a0 a1 a2 m0 m1 m2 qs qo qt s e y q z) ca (Wd wO X00 Y00 i)) := by
  rcases (show i = 60 ∨ i = 61 ∨ i = 62 ∨ i = 63 ∨ i = 64 by omega) with rfl | rfl | rfl | rfl | rfl
  · rfl
  · rfl
  · rfl
  · rfl
  · rfl
set_option maxHeartbeats 8000000 in
theorem w0_65 (ca : Nat → Nat) (b x a0 a1 a2 : Nat) (m0 m1 m2 : Nat → Nat) (qs qo qt : Nat) (s e : Nat → Nat) (y : Nat) (q : Nat → Nat) (z : Nat) {i : Nat} (h1 : 65 ≤ i) (h2 : i < 70) : ((wsX3 ca x a0 a1 a2 m0 m1 m2 qs qo qt s e 8 ++ wsX4 ca y q (fun j => if j < 5 then g40 j else 0) (fun j => if j < 5 then g3 j else 0)) ++ [(z, .inl (ca 1, 1, .inr (.inl (fun _ => 0))))])[i]? = some (adL b x a0 a1 a2 m0 m1 m2 qs qo qt s e y q z i, a_e (adL b x a0 a1 a2 m0 m1 m2 qs qo qt s e y q z) ca (Wd wO X00 Y00 i)) := by
  rcases (show i = 65 ∨ i = 66 ∨ i = 67 ∨ i = 68 ∨ i = 69 by omega) with rfl | rfl | rfl | rfl | rfl
  · rfl
  · rfl
  · rfl
  · rfl
  · rfl
set_option maxHeartbeats 8000000 in
theorem w0_70 (ca : Nat → Nat) (b x a0 a1 a2 : Nat) (m0 m1 m2 : Nat → Nat) (qs qo qt : Nat) (s e : Nat → Nat) (y : Nat) (q : Nat → Nat) (z : Nat) {i : Nat} (h1 : 70 ≤ i) (h2 : i < 75) : ((wsX3 ca x a0 a1 a2 m0 m1 m2 qs qo qt s e 8 ++ wsX4 ca y q (fun j => if j < 5 then g40 j else 0) (fun j => if j < 5 then g3 j else 0)) ++ [(z, .inl (ca 1, 1, .inr (.inl (fun _ => 0))))])[i]? = some (adL b x a0 a1 a2 m0 m1 m2 qs qo qt s e y q z i, a_e (adL b x a0 a1 a2 m0 m1 m2 qs qo qt s e y q z) ca (Wd wO X00 Y00 i)) := by
  rcases (show i = 70 ∨ i = 71 ∨ i = 72 ∨ i = 73 ∨ i = 74 by omega) with rfl | rfl | rfl | rfl | rfl
  · rfl
  · rfl
  · rfl
  · rfl
  · rfl
