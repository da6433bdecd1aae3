theorem world0 (ca : Nat → Nat) (b x a0 a1 a2 : Nat) (m0 m1 m2 : Nat → Nat) (qs qo qt : Nat) (s e : Nat → Nat) (y : Nat) (q : Nat → Nat) (z : Nat) : ((wsX3 ca x a0 a1 a2 m0 m1 m2 qs qo qt s e 8 ++ wsX4 ca y q (fun j => if j < 5 then g40 j else 0) (fun j => if j < 5 then g3 j else 0)) ++ [(z, .inl (ca 1, 1, .inr (.inl (fun _ => 0))))]) = a_w (adL b x a0 a1 a2 m0 m1 m2 qs qo qt s e y q z) ca (Wd wO X00 Y00) := by
  apply List.ext_getElem?
  intro i
  rcases Nat.lt_or_ge i 75 with hi | hi
  · rw [a_w_get hi]
    by_cases h12 : i < 12
    · exact w0_0 ca b x a0 a1 a2 m0 m1 m2 qs qo qt s e y q z (by omega) h12
    by_cases h24 : i < 24
    · exact w0_12 ca b x a0 a1 a2 m0 m1 m2 qs qo qt s e y q z (by omega) h24
    by_cases h34 : i < 34
    · exact w0_24 ca b x a0 a1 a2 m0 m1 m2 qs qo qt s e y q z (by omega) h34
    by_cases h44 : i < 44
    · exact w0_34 ca b x a0 a1 a2 m0 m1 m2 qs qo qt s e y q z (by omega) h44
    by_cases h50 : i < 50
    · exact w0_44 ca b x a0 a1 a2 m0 m1 m2 qs qo qt s e y q z (by omega) h50
    by_cases h53 : i < 53
    · exact w0_50 ca b x a0 a1 a2 m0 m1 m2 qs qo qt s e y q z (by omega) h53
    by_cases h56 : i < 56
    · exact w0_53 ca b x a0 a1 a2 m0 m1 m2 qs qo qt s e y q z (by omega) h56
    by_cases h60 : i < 60
    · exact w0_56 ca b x a0 a1 a2 m0 m1 m2 qs qo qt s e y q z (by omega) h60
    by_cases h65 : i < 65
    · exact w0_60 ca b x a0 a1 a2 m0 m1 m2 qs qo qt s e y q z (by omega) h65
    by_cases h70 : i < 70
    · exact w0_65 ca b x a0 a1 a2 m0 m1 m2 qs qo qt s e y q z (by omega) h70
    exact w0_70 ca b x a0 a1 a2 m0 m1 m2 qs qo qt s e y q z (by omega) hi
  · have hl : 75 ≤ i := hi
    rw [List.getElem?_eq_none (by rw [List.length_append, List.length_append, ws3_len]; exact hl), List.getElem?_eq_none (by unfold a_w; rw [List.length_map, List.length_range]; exact hl)]
