/-! the decompiled methods: each f_ is what its bytecode does to a world; each s_ ties it to the machine. Written by program (wip/gen/gen.py). -/
def M_X4_isFree : aM := (yX4_isFree, cX4_isFree, 2, (some .boolean), 1, 21)
theorem ok_X4_isFree : a_okM M_X4_isFree 1 := ⟨⟨by decide +kernel, by decide +kernel⟩, by decide +kernel, a_in 1109 (by decide +kernel) rfl, a_in 79 (by decide +kernel) rfl⟩
theorem dX4_isFree_0 : decode M_X4_isFree.2.1 0 = .ok (.aload_n 0, 1) := by decide +kernel
theorem dX4_isFree_1 : decode M_X4_isFree.2.1 1 = .ok (.getfield 107, 3) := by decide +kernel
theorem dX4_isFree_4 : decode M_X4_isFree.2.1 4 = .ok (.iload_n 1, 1) := by decide +kernel
theorem dX4_isFree_5 : decode M_X4_isFree.2.1 5 = .ok (.invokestatic 110, 3) := by decide +kernel
theorem dX4_isFree_8 : decode M_X4_isFree.2.1 8 = .ok (.ifCond .eq 16, 3) := by decide +kernel
theorem dX4_isFree_11 : decode M_X4_isFree.2.1 11 = .ok (.aload_n 0, 1) := by decide +kernel
theorem dX4_isFree_12 : decode M_X4_isFree.2.1 12 = .ok (.getfield 22, 3) := by decide +kernel
theorem dX4_isFree_15 : decode M_X4_isFree.2.1 15 = .ok (.iload_n 1, 1) := by decide +kernel
theorem dX4_isFree_16 : decode M_X4_isFree.2.1 16 = .ok (.iaload, 1) := by decide +kernel
theorem dX4_isFree_17 : decode M_X4_isFree.2.1 17 = .ok (.ifCond .ge 7, 3) := by decide +kernel
theorem dX4_isFree_20 : decode M_X4_isFree.2.1 20 = .ok (.iconst 1, 1) := by decide +kernel
theorem dX4_isFree_21 : decode M_X4_isFree.2.1 21 = .ok (.goto 4, 3) := by decide +kernel
theorem dX4_isFree_24 : decode M_X4_isFree.2.1 24 = .ok (.iconst 0, 1) := by decide +kernel
theorem dX4_isFree_25 : decode M_X4_isFree.2.1 25 = .ok (.ireturn, 1) := by decide +kernel
theorem hs_X4_107 : a_fs RX4 107 3 6 := ⟨RX4, TX4, 37, rfl, tin_X4, by decide, a_in 871 (by decide +kernel) rfl⟩
theorem ht_X4_110 : a_okS RX4 M_X4_hasBit 110 := ⟨a_in 1047 (by decide +kernel) rfl, a_in 1048 (by decide +kernel) rfl⟩
def f_X4_isFree (a0 : Nat) (a1 : Int32) (w : aW) : Option (Int32 × aW) :=
  (gI 3 w a0 6).bind fun x1 =>
  bk (f_X4_hasBit x1 a1 w) fun x3 w2 =>
  if x3 = (0 : Int32) then
    some ((0 : Int32), w2)
  else
    (gR 3 w2 a0 5).bind fun r4 =>
    (gA w2 r4 a1).bind fun x5 =>
    if (0 : Int32) ≤ x5 then
      some ((0 : Int32), w2)
    else
      some ((1 : Int32), w2)
theorem s_X4_isFree (a0 : Nat) (a1 : Int32) (w : aW) : Sp rvI M_X4_isFree [.ref a0, .int a1] w (f_X4_isFree a0 a1 w) := by
  refine e_entry [some (.ref a0), some (.int a1)] (by decide +kernel) (Nat.le_of_ble_eq_true rfl) (fun _ => rfl) ?_
  unfold f_X4_isFree
  refine e_aload_n (pc := 0) dX4_isFree_0 rfl rfl ?_
  refine e_getI (pc := 1) dX4_isFree_1 hs_X4_107 (fun x1 => ?_)
  refine e_iload_n (pc := 4) dX4_isFree_4 rfl rfl ?_
  refine e_callS (pc := 5) (av := [.int x1, .int a1]) (S := []) ok_X4_hasBit ⟨Nat.le_of_ble_eq_true rfl, Nat.le_of_ble_eq_true rfl⟩ ht_X4_110 dX4_isFree_5 (s_X4_hasBit x1 a1 w) rfl rfl (Nat.le_of_ble_eq_true rfl) (fun x3 w2 => ?_)
  refine e_if_eq (pc := 8) (tgt := 24) dX4_isFree_8 (by decide) (fun _ => ?_) (fun _ => ?_)
  · refine e_iconst (pc := 24) dX4_isFree_24 kc_0 ?_
    exact e_iret (pc := 25) dX4_isFree_25 rfl (a_nb (by decide))
  · refine e_aload_n (pc := 11) dX4_isFree_11 rfl rfl ?_
    refine e_getR (pc := 12) dX4_isFree_12 hs_X4_22 (fun r4 => ?_)
    refine e_iload_n (pc := 15) dX4_isFree_15 rfl rfl ?_
    refine e_iald (pc := 16) dX4_isFree_16 (fun x5 => ?_)
    refine e_if_ge (pc := 17) (tgt := 24) dX4_isFree_17 (by decide) (fun _ => ?_) (fun _ => ?_)
    · refine e_iconst (pc := 24) dX4_isFree_24 kc_0 ?_
      exact e_iret (pc := 25) dX4_isFree_25 rfl (a_nb (by decide))
    · refine e_iconst (pc := 20) dX4_isFree_20 kc_1 ?_
      refine e_goto (pc := 21) (tgt := 25) dX4_isFree_21 (by decide) ?_
      exact e_iret (pc := 25) dX4_isFree_25 rfl (a_nb (by decide))
def M_X4_freeBits : aM := (yX4_freeBits, cX4_freeBits, 3, (some .int), 2, 42)
theorem ok_X4_freeBits : a_okM M_X4_freeBits 0 := ⟨⟨by decide +kernel, by decide +kernel⟩, by decide +kernel, a_in 1267 (by decide +kernel) rfl, a_in 79 (by decide +kernel) rfl⟩
theorem dX4_freeBits_0 : decode M_X4_freeBits.2.1 0 = .ok (.iconst 0, 1) := by decide +kernel
theorem dX4_freeBits_1 : decode M_X4_freeBits.2.1 1 = .ok (.istore_n 1, 1) := by decide +kernel
theorem dX4_freeBits_2 : decode M_X4_freeBits.2.1 2 = .ok (.iconst 0, 1) := by decide +kernel
theorem dX4_freeBits_3 : decode M_X4_freeBits.2.1 3 = .ok (.istore_n 2, 1) := by decide +kernel
theorem dX4_freeBits_4 : decode M_X4_freeBits.2.1 4 = .ok (.iload_n 2, 1) := by decide +kernel
theorem dX4_freeBits_5 : decode M_X4_freeBits.2.1 5 = .ok (.aload_n 0, 1) := by decide +kernel
theorem dX4_freeBits_6 : decode M_X4_freeBits.2.1 6 = .ok (.getfield 92, 3) := by decide +kernel
theorem dX4_freeBits_9 : decode M_X4_freeBits.2.1 9 = .ok (.if_icmp .ge 27, 3) := by decide +kernel
theorem dX4_freeBits_12 : decode M_X4_freeBits.2.1 12 = .ok (.iload_n 1, 1) := by decide +kernel
theorem dX4_freeBits_13 : decode M_X4_freeBits.2.1 13 = .ok (.aload_n 0, 1) := by decide +kernel
theorem dX4_freeBits_14 : decode M_X4_freeBits.2.1 14 = .ok (.iload_n 2, 1) := by decide +kernel
theorem dX4_freeBits_15 : decode M_X4_freeBits.2.1 15 = .ok (.invokevirtual 114, 3) := by decide +kernel
theorem dX4_freeBits_18 : decode M_X4_freeBits.2.1 18 = .ok (.ifCond .eq 9, 3) := by decide +kernel
theorem dX4_freeBits_21 : decode M_X4_freeBits.2.1 21 = .ok (.iconst 1, 1) := by decide +kernel
theorem dX4_freeBits_22 : decode M_X4_freeBits.2.1 22 = .ok (.iload_n 2, 1) := by decide +kernel
theorem dX4_freeBits_23 : decode M_X4_freeBits.2.1 23 = .ok (.ishl, 1) := by decide +kernel
theorem dX4_freeBits_24 : decode M_X4_freeBits.2.1 24 = .ok (.goto 4, 3) := by decide +kernel
theorem dX4_freeBits_27 : decode M_X4_freeBits.2.1 27 = .ok (.iconst 0, 1) := by decide +kernel
theorem dX4_freeBits_28 : decode M_X4_freeBits.2.1 28 = .ok (.ior, 1) := by decide +kernel
theorem dX4_freeBits_29 : decode M_X4_freeBits.2.1 29 = .ok (.istore_n 1, 1) := by decide +kernel
theorem dX4_freeBits_30 : decode M_X4_freeBits.2.1 30 = .ok (.iinc 2 1, 3) := by decide +kernel
theorem dX4_freeBits_33 : decode M_X4_freeBits.2.1 33 = .ok (.goto (-29), 3) := by decide +kernel
theorem dX4_freeBits_36 : decode M_X4_freeBits.2.1 36 = .ok (.iload_n 1, 1) := by decide +kernel
theorem dX4_freeBits_37 : decode M_X4_freeBits.2.1 37 = .ok (.ireturn, 1) := by decide +kernel
theorem hv_X4_114 : a_okV RX4 M_X4_isFree 114 := ⟨a_in 1106 (by decide +kernel) rfl, a_in 1108 (by decide +kernel) rfl, a_in 46 (by decide +kernel) rfl⟩
def c_X4_freeBits_4 (a0 : Nat) (k4 : Int32 → Int32 → aW → Option (Int32 × aW)) (b1 : Int32) (b2 : Int32) (w : aW) : Option (Int32 × aW) :=
  (gI 3 w a0 0).bind fun x1 =>
  if x1 ≤ b2 then
    some (b1, w)
  else
    cV 3 w a0 (bk (f_X4_isFree a0 b2 w) fun x3 w2 =>
    if x3 = (0 : Int32) then
      k4 (b1 ||| (0 : Int32)) (b2 + 1) w2
    else
      k4 (b1 ||| ((1 : Int32) <<< (b2 &&& 31))) (b2 + 1) w2)
theorem t_X4_freeBits_4 (a0 : Nat) (k4 : Int32 → Int32 → aW → Option (Int32 × aW)) (hk4 : ∀ (b1 : Int32) (b2 : Int32) (w : aW), Ev rvI M_X4_freeBits 4 [some (.ref a0), some (.int b1), some (.int b2)] [] w (k4 b1 b2 w)) (b1 : Int32) (b2 : Int32) (w : aW) : Ev rvI M_X4_freeBits 4 [some (.ref a0), some (.int b1), some (.int b2)] [] w (c_X4_freeBits_4 a0 k4 b1 b2 w) := by
  unfold c_X4_freeBits_4
  refine e_iload_n (pc := 4) dX4_freeBits_4 rfl rfl ?_
  refine e_aload_n (pc := 5) dX4_freeBits_5 rfl rfl ?_
  refine e_getI (pc := 6) dX4_freeBits_6 hs_X4_92 (fun x1 => ?_)
  refine e_icmp_ge (pc := 9) (tgt := 36) dX4_freeBits_9 (by decide) (fun _ => ?_) (fun _ => ?_)
  · refine e_iload_n (pc := 36) dX4_freeBits_36 rfl rfl ?_
    exact e_iret (pc := 37) dX4_freeBits_37 rfl rfl
  · refine e_iload_n (pc := 12) dX4_freeBits_12 rfl rfl ?_
    refine e_aload_n (pc := 13) dX4_freeBits_13 rfl rfl ?_
    refine e_iload_n (pc := 14) dX4_freeBits_14 rfl rfl ?_
    refine e_callV (pc := 15) (av := [.int b2]) (S := [.int b1]) (c0 := 3) rfl rfl ok_X4_isFree ⟨Nat.le_of_ble_eq_true rfl, Nat.le_of_ble_eq_true rfl⟩ hv_X4_114 dX4_freeBits_15 (s_X4_isFree a0 b2 w) rfl rfl (Nat.le_of_ble_eq_true rfl) (fun x3 w2 => ?_)
    refine e_if_eq (pc := 18) (tgt := 27) dX4_freeBits_18 (by decide) (fun _ => ?_) (fun _ => ?_)
    · refine e_iconst (pc := 27) dX4_freeBits_27 kc_0 ?_
      refine e_ior (pc := 28) dX4_freeBits_28 ?_
      refine e_istore_n (L' := [some (.ref a0), some (.int (b1 ||| (0 : Int32))), some (.int b2)]) (pc := 29) dX4_freeBits_29 rfl (by decide) rfl ?_
      refine e_iinc (L' := [some (.ref a0), some (.int (b1 ||| (0 : Int32))), some (.int (b2 + 1))]) (pc := 30) (v := 1) dX4_freeBits_30 (by decide) rfl kc_1 rfl ?_
      refine e_goto (pc := 33) (tgt := 4) dX4_freeBits_33 (by decide) ?_
      exact hk4 (b1 ||| (0 : Int32)) (b2 + 1) w2
    · refine e_iconst (pc := 21) dX4_freeBits_21 kc_1 ?_
      refine e_iload_n (pc := 22) dX4_freeBits_22 rfl rfl ?_
      refine e_ishl (pc := 23) dX4_freeBits_23 ?_
      refine e_goto (pc := 24) (tgt := 28) dX4_freeBits_24 (by decide) ?_
      refine e_ior (pc := 28) dX4_freeBits_28 ?_
      refine e_istore_n (L' := [some (.ref a0), some (.int (b1 ||| ((1 : Int32) <<< (b2 &&& 31)))), some (.int b2)]) (pc := 29) dX4_freeBits_29 rfl (by decide) rfl ?_
      refine e_iinc (L' := [some (.ref a0), some (.int (b1 ||| ((1 : Int32) <<< (b2 &&& 31)))), some (.int (b2 + 1))]) (pc := 30) (v := 1) dX4_freeBits_30 (by decide) rfl kc_1 rfl ?_
      refine e_goto (pc := 33) (tgt := 4) dX4_freeBits_33 (by decide) ?_
      exact hk4 (b1 ||| ((1 : Int32) <<< (b2 &&& 31))) (b2 + 1) w2
def f_X4_freeBits (a0 : Nat) (w : aW) : Option (Int32 × aW) :=
  loop3 (c_X4_freeBits_4 a0) a_fuel (0 : Int32) (0 : Int32) w
theorem s_X4_freeBits (a0 : Nat) (w : aW) : Sp rvI M_X4_freeBits [.ref a0] w (f_X4_freeBits a0 w) := by
  refine e_entry [some (.ref a0), none, none] (by decide +kernel) (Nat.le_of_ble_eq_true rfl) (fun _ => rfl) ?_
  unfold f_X4_freeBits
  refine e_iconst (pc := 0) dX4_freeBits_0 kc_0 ?_
  refine e_istore_n (L' := [some (.ref a0), some (.int (0 : Int32)), none]) (pc := 1) dX4_freeBits_1 rfl (by decide) rfl ?_
  refine e_iconst (pc := 2) dX4_freeBits_2 kc_0 ?_
  refine e_istore_n (L' := [some (.ref a0), some (.int (0 : Int32)), some (.int (0 : Int32))]) (pc := 3) dX4_freeBits_3 rfl (by decide) rfl ?_
  exact e_loop3 (L := fun b1 b2 => [some (.ref a0), some (.int b1), some (.int b2)]) (S := fun b1 b2 => []) (fun kf hkf => t_X4_freeBits_4 a0  kf hkf) _ (0 : Int32) (0 : Int32) w
def M_X4_calledBits : aM := (yX4_calledBits, cX4_calledBits, 4, (some .int), 0, 0)
theorem ok_X4_calledBits : a_okM M_X4_calledBits 1 := ⟨⟨by decide +kernel, by decide +kernel⟩, by decide +kernel, a_in 1150 (by decide +kernel) rfl, a_in 79 (by decide +kernel) rfl⟩
theorem dX4_calledBits_0 : decode M_X4_calledBits.2.1 0 = .ok (.iconst 0, 1) := by decide +kernel
theorem dX4_calledBits_1 : decode M_X4_calledBits.2.1 1 = .ok (.istore_n 2, 1) := by decide +kernel
theorem dX4_calledBits_2 : decode M_X4_calledBits.2.1 2 = .ok (.iconst 0, 1) := by decide +kernel
theorem dX4_calledBits_3 : decode M_X4_calledBits.2.1 3 = .ok (.istore_n 3, 1) := by decide +kernel
theorem dX4_calledBits_4 : decode M_X4_calledBits.2.1 4 = .ok (.iload_n 3, 1) := by decide +kernel
theorem dX4_calledBits_5 : decode M_X4_calledBits.2.1 5 = .ok (.aload_n 0, 1) := by decide +kernel
theorem dX4_calledBits_6 : decode M_X4_calledBits.2.1 6 = .ok (.getfield 92, 3) := by decide +kernel
theorem dX4_calledBits_9 : decode M_X4_calledBits.2.1 9 = .ok (.if_icmp .ge 29, 3) := by decide +kernel
theorem dX4_calledBits_12 : decode M_X4_calledBits.2.1 12 = .ok (.iload_n 2, 1) := by decide +kernel
theorem dX4_calledBits_13 : decode M_X4_calledBits.2.1 13 = .ok (.aload_n 0, 1) := by decide +kernel
theorem dX4_calledBits_14 : decode M_X4_calledBits.2.1 14 = .ok (.getfield 22, 3) := by decide +kernel
theorem dX4_calledBits_17 : decode M_X4_calledBits.2.1 17 = .ok (.iload_n 3, 1) := by decide +kernel
theorem dX4_calledBits_18 : decode M_X4_calledBits.2.1 18 = .ok (.iaload, 1) := by decide +kernel
theorem dX4_calledBits_19 : decode M_X4_calledBits.2.1 19 = .ok (.iload_n 1, 1) := by decide +kernel
theorem dX4_calledBits_20 : decode M_X4_calledBits.2.1 20 = .ok (.if_icmp .ne 9, 3) := by decide +kernel
theorem dX4_calledBits_23 : decode M_X4_calledBits.2.1 23 = .ok (.iconst 1, 1) := by decide +kernel
theorem dX4_calledBits_24 : decode M_X4_calledBits.2.1 24 = .ok (.iload_n 3, 1) := by decide +kernel
theorem dX4_calledBits_25 : decode M_X4_calledBits.2.1 25 = .ok (.ishl, 1) := by decide +kernel
theorem dX4_calledBits_26 : decode M_X4_calledBits.2.1 26 = .ok (.goto 4, 3) := by decide +kernel
theorem dX4_calledBits_29 : decode M_X4_calledBits.2.1 29 = .ok (.iconst 0, 1) := by decide +kernel
theorem dX4_calledBits_30 : decode M_X4_calledBits.2.1 30 = .ok (.ior, 1) := by decide +kernel
theorem dX4_calledBits_31 : decode M_X4_calledBits.2.1 31 = .ok (.istore_n 2, 1) := by decide +kernel
theorem dX4_calledBits_32 : decode M_X4_calledBits.2.1 32 = .ok (.iinc 3 1, 3) := by decide +kernel
theorem dX4_calledBits_35 : decode M_X4_calledBits.2.1 35 = .ok (.goto (-31), 3) := by decide +kernel
theorem dX4_calledBits_38 : decode M_X4_calledBits.2.1 38 = .ok (.iload_n 2, 1) := by decide +kernel
theorem dX4_calledBits_39 : decode M_X4_calledBits.2.1 39 = .ok (.ireturn, 1) := by decide +kernel
def c_X4_calledBits_4 (a0 : Nat) (a1 : Int32) (k4 : Int32 → Int32 → aW → Option (Int32 × aW)) (b2 : Int32) (b3 : Int32) (w : aW) : Option (Int32 × aW) :=
  (gI 3 w a0 0).bind fun x1 =>
  if x1 ≤ b3 then
    some (b2, w)
  else
    (gR 3 w a0 5).bind fun r2 =>
    (gA w r2 b3).bind fun x3 =>
    if ¬ x3 = a1 then
      k4 (b2 ||| (0 : Int32)) (b3 + 1) w
    else
      k4 (b2 ||| ((1 : Int32) <<< (b3 &&& 31))) (b3 + 1) w
theorem t_X4_calledBits_4 (a0 : Nat) (a1 : Int32) (k4 : Int32 → Int32 → aW → Option (Int32 × aW)) (hk4 : ∀ (b2 : Int32) (b3 : Int32) (w : aW), Ev rvI M_X4_calledBits 4 [some (.ref a0), some (.int a1), some (.int b2), some (.int b3)] [] w (k4 b2 b3 w)) (b2 : Int32) (b3 : Int32) (w : aW) : Ev rvI M_X4_calledBits 4 [some (.ref a0), some (.int a1), some (.int b2), some (.int b3)] [] w (c_X4_calledBits_4 a0 a1 k4 b2 b3 w) := by
  unfold c_X4_calledBits_4
  refine e_iload_n (pc := 4) dX4_calledBits_4 rfl rfl ?_
  refine e_aload_n (pc := 5) dX4_calledBits_5 rfl rfl ?_
  refine e_getI (pc := 6) dX4_calledBits_6 hs_X4_92 (fun x1 => ?_)
  refine e_icmp_ge (pc := 9) (tgt := 38) dX4_calledBits_9 (by decide) (fun _ => ?_) (fun _ => ?_)
  · refine e_iload_n (pc := 38) dX4_calledBits_38 rfl rfl ?_
    exact e_iret (pc := 39) dX4_calledBits_39 rfl rfl
  · refine e_iload_n (pc := 12) dX4_calledBits_12 rfl rfl ?_
    refine e_aload_n (pc := 13) dX4_calledBits_13 rfl rfl ?_
    refine e_getR (pc := 14) dX4_calledBits_14 hs_X4_22 (fun r2 => ?_)
    refine e_iload_n (pc := 17) dX4_calledBits_17 rfl rfl ?_
    refine e_iald (pc := 18) dX4_calledBits_18 (fun x3 => ?_)
    refine e_iload_n (pc := 19) dX4_calledBits_19 rfl rfl ?_
    refine e_icmp_ne (pc := 20) (tgt := 29) dX4_calledBits_20 (by decide) (fun _ => ?_) (fun _ => ?_)
    · refine e_iconst (pc := 29) dX4_calledBits_29 kc_0 ?_
      refine e_ior (pc := 30) dX4_calledBits_30 ?_
      refine e_istore_n (L' := [some (.ref a0), some (.int a1), some (.int (b2 ||| (0 : Int32))), some (.int b3)]) (pc := 31) dX4_calledBits_31 rfl (by decide) rfl ?_
      refine e_iinc (L' := [some (.ref a0), some (.int a1), some (.int (b2 ||| (0 : Int32))), some (.int (b3 + 1))]) (pc := 32) (v := 1) dX4_calledBits_32 (by decide) rfl kc_1 rfl ?_
      refine e_goto (pc := 35) (tgt := 4) dX4_calledBits_35 (by decide) ?_
      exact hk4 (b2 ||| (0 : Int32)) (b3 + 1) w
    · refine e_iconst (pc := 23) dX4_calledBits_23 kc_1 ?_
      refine e_iload_n (pc := 24) dX4_calledBits_24 rfl rfl ?_
      refine e_ishl (pc := 25) dX4_calledBits_25 ?_
      refine e_goto (pc := 26) (tgt := 30) dX4_calledBits_26 (by decide) ?_
      refine e_ior (pc := 30) dX4_calledBits_30 ?_
      refine e_istore_n (L' := [some (.ref a0), some (.int a1), some (.int (b2 ||| ((1 : Int32) <<< (b3 &&& 31)))), some (.int b3)]) (pc := 31) dX4_calledBits_31 rfl (by decide) rfl ?_
      refine e_iinc (L' := [some (.ref a0), some (.int a1), some (.int (b2 ||| ((1 : Int32) <<< (b3 &&& 31)))), some (.int (b3 + 1))]) (pc := 32) (v := 1) dX4_calledBits_32 (by decide) rfl kc_1 rfl ?_
      refine e_goto (pc := 35) (tgt := 4) dX4_calledBits_35 (by decide) ?_
      exact hk4 (b2 ||| ((1 : Int32) <<< (b3 &&& 31))) (b3 + 1) w
def f_X4_calledBits (a0 : Nat) (a1 : Int32) (w : aW) : Option (Int32 × aW) :=
  loop3 (c_X4_calledBits_4 a0 a1) a_fuel (0 : Int32) (0 : Int32) w
theorem s_X4_calledBits (a0 : Nat) (a1 : Int32) (w : aW) : Sp rvI M_X4_calledBits [.ref a0, .int a1] w (f_X4_calledBits a0 a1 w) := by
  refine e_entry [some (.ref a0), some (.int a1), none, none] (by decide +kernel) (Nat.le_of_ble_eq_true rfl) (fun _ => rfl) ?_
  unfold f_X4_calledBits
  refine e_iconst (pc := 0) dX4_calledBits_0 kc_0 ?_
  refine e_istore_n (L' := [some (.ref a0), some (.int a1), some (.int (0 : Int32)), none]) (pc := 1) dX4_calledBits_1 rfl (by decide) rfl ?_
  refine e_iconst (pc := 2) dX4_calledBits_2 kc_0 ?_
  refine e_istore_n (L' := [some (.ref a0), some (.int a1), some (.int (0 : Int32)), some (.int (0 : Int32))]) (pc := 3) dX4_calledBits_3 rfl (by decide) rfl ?_
  exact e_loop3 (L := fun b2 b3 => [some (.ref a0), some (.int a1), some (.int b2), some (.int b3)]) (S := fun b2 b3 => []) (fun kf hkf => t_X4_calledBits_4 a0 a1  kf hkf) _ (0 : Int32) (0 : Int32) w
def M_X4_calledAll : aM := (yX4_calledAll, cX4_calledAll, 3, (some .int), 0, 0)
theorem ok_X4_calledAll : a_okM M_X4_calledAll 0 := ⟨⟨by decide +kernel, by decide +kernel⟩, by decide +kernel, a_in 1245 (by decide +kernel) rfl, a_in 79 (by decide +kernel) rfl⟩
theorem dX4_calledAll_0 : decode M_X4_calledAll.2.1 0 = .ok (.iconst 0, 1) := by decide +kernel
theorem dX4_calledAll_1 : decode M_X4_calledAll.2.1 1 = .ok (.istore_n 1, 1) := by decide +kernel
theorem dX4_calledAll_2 : decode M_X4_calledAll.2.1 2 = .ok (.iconst 0, 1) := by decide +kernel
theorem dX4_calledAll_3 : decode M_X4_calledAll.2.1 3 = .ok (.istore_n 2, 1) := by decide +kernel
theorem dX4_calledAll_4 : decode M_X4_calledAll.2.1 4 = .ok (.iload_n 2, 1) := by decide +kernel
theorem dX4_calledAll_5 : decode M_X4_calledAll.2.1 5 = .ok (.aload_n 0, 1) := by decide +kernel
theorem dX4_calledAll_6 : decode M_X4_calledAll.2.1 6 = .ok (.getfield 92, 3) := by decide +kernel
theorem dX4_calledAll_9 : decode M_X4_calledAll.2.1 9 = .ok (.if_icmp .ge 28, 3) := by decide +kernel
theorem dX4_calledAll_12 : decode M_X4_calledAll.2.1 12 = .ok (.iload_n 1, 1) := by decide +kernel
theorem dX4_calledAll_13 : decode M_X4_calledAll.2.1 13 = .ok (.aload_n 0, 1) := by decide +kernel
theorem dX4_calledAll_14 : decode M_X4_calledAll.2.1 14 = .ok (.getfield 22, 3) := by decide +kernel
theorem dX4_calledAll_17 : decode M_X4_calledAll.2.1 17 = .ok (.iload_n 2, 1) := by decide +kernel
theorem dX4_calledAll_18 : decode M_X4_calledAll.2.1 18 = .ok (.iaload, 1) := by decide +kernel
theorem dX4_calledAll_19 : decode M_X4_calledAll.2.1 19 = .ok (.ifCond .lt 9, 3) := by decide +kernel
theorem dX4_calledAll_22 : decode M_X4_calledAll.2.1 22 = .ok (.iconst 1, 1) := by decide +kernel
theorem dX4_calledAll_23 : decode M_X4_calledAll.2.1 23 = .ok (.iload_n 2, 1) := by decide +kernel
theorem dX4_calledAll_24 : decode M_X4_calledAll.2.1 24 = .ok (.ishl, 1) := by decide +kernel
theorem dX4_calledAll_25 : decode M_X4_calledAll.2.1 25 = .ok (.goto 4, 3) := by decide +kernel
theorem dX4_calledAll_28 : decode M_X4_calledAll.2.1 28 = .ok (.iconst 0, 1) := by decide +kernel
theorem dX4_calledAll_29 : decode M_X4_calledAll.2.1 29 = .ok (.ior, 1) := by decide +kernel
theorem dX4_calledAll_30 : decode M_X4_calledAll.2.1 30 = .ok (.istore_n 1, 1) := by decide +kernel
theorem dX4_calledAll_31 : decode M_X4_calledAll.2.1 31 = .ok (.iinc 2 1, 3) := by decide +kernel
theorem dX4_calledAll_34 : decode M_X4_calledAll.2.1 34 = .ok (.goto (-30), 3) := by decide +kernel
theorem dX4_calledAll_37 : decode M_X4_calledAll.2.1 37 = .ok (.iload_n 1, 1) := by decide +kernel
theorem dX4_calledAll_38 : decode M_X4_calledAll.2.1 38 = .ok (.ireturn, 1) := by decide +kernel
def c_X4_calledAll_4 (a0 : Nat) (k4 : Int32 → Int32 → aW → Option (Int32 × aW)) (b1 : Int32) (b2 : Int32) (w : aW) : Option (Int32 × aW) :=
  (gI 3 w a0 0).bind fun x1 =>
  if x1 ≤ b2 then
    some (b1, w)
  else
    (gR 3 w a0 5).bind fun r2 =>
    (gA w r2 b2).bind fun x3 =>
    if x3 < (0 : Int32) then
      k4 (b1 ||| (0 : Int32)) (b2 + 1) w
    else
      k4 (b1 ||| ((1 : Int32) <<< (b2 &&& 31))) (b2 + 1) w
theorem t_X4_calledAll_4 (a0 : Nat) (k4 : Int32 → Int32 → aW → Option (Int32 × aW)) (hk4 : ∀ (b1 : Int32) (b2 : Int32) (w : aW), Ev rvI M_X4_calledAll 4 [some (.ref a0), some (.int b1), some (.int b2)] [] w (k4 b1 b2 w)) (b1 : Int32) (b2 : Int32) (w : aW) : Ev rvI M_X4_calledAll 4 [some (.ref a0), some (.int b1), some (.int b2)] [] w (c_X4_calledAll_4 a0 k4 b1 b2 w) := by
  unfold c_X4_calledAll_4
  refine e_iload_n (pc := 4) dX4_calledAll_4 rfl rfl ?_
  refine e_aload_n (pc := 5) dX4_calledAll_5 rfl rfl ?_
  refine e_getI (pc := 6) dX4_calledAll_6 hs_X4_92 (fun x1 => ?_)
  refine e_icmp_ge (pc := 9) (tgt := 37) dX4_calledAll_9 (by decide) (fun _ => ?_) (fun _ => ?_)
  · refine e_iload_n (pc := 37) dX4_calledAll_37 rfl rfl ?_
    exact e_iret (pc := 38) dX4_calledAll_38 rfl rfl
  · refine e_iload_n (pc := 12) dX4_calledAll_12 rfl rfl ?_
    refine e_aload_n (pc := 13) dX4_calledAll_13 rfl rfl ?_
    refine e_getR (pc := 14) dX4_calledAll_14 hs_X4_22 (fun r2 => ?_)
    refine e_iload_n (pc := 17) dX4_calledAll_17 rfl rfl ?_
    refine e_iald (pc := 18) dX4_calledAll_18 (fun x3 => ?_)
    refine e_if_lt (pc := 19) (tgt := 28) dX4_calledAll_19 (by decide) (fun _ => ?_) (fun _ => ?_)
    · refine e_iconst (pc := 28) dX4_calledAll_28 kc_0 ?_
      refine e_ior (pc := 29) dX4_calledAll_29 ?_
      refine e_istore_n (L' := [some (.ref a0), some (.int (b1 ||| (0 : Int32))), some (.int b2)]) (pc := 30) dX4_calledAll_30 rfl (by decide) rfl ?_
      refine e_iinc (L' := [some (.ref a0), some (.int (b1 ||| (0 : Int32))), some (.int (b2 + 1))]) (pc := 31) (v := 1) dX4_calledAll_31 (by decide) rfl kc_1 rfl ?_
      refine e_goto (pc := 34) (tgt := 4) dX4_calledAll_34 (by decide) ?_
      exact hk4 (b1 ||| (0 : Int32)) (b2 + 1) w
    · refine e_iconst (pc := 22) dX4_calledAll_22 kc_1 ?_
      refine e_iload_n (pc := 23) dX4_calledAll_23 rfl rfl ?_
      refine e_ishl (pc := 24) dX4_calledAll_24 ?_
      refine e_goto (pc := 25) (tgt := 29) dX4_calledAll_25 (by decide) ?_
      refine e_ior (pc := 29) dX4_calledAll_29 ?_
      refine e_istore_n (L' := [some (.ref a0), some (.int (b1 ||| ((1 : Int32) <<< (b2 &&& 31)))), some (.int b2)]) (pc := 30) dX4_calledAll_30 rfl (by decide) rfl ?_
      refine e_iinc (L' := [some (.ref a0), some (.int (b1 ||| ((1 : Int32) <<< (b2 &&& 31)))), some (.int (b2 + 1))]) (pc := 31) (v := 1) dX4_calledAll_31 (by decide) rfl kc_1 rfl ?_
      refine e_goto (pc := 34) (tgt := 4) dX4_calledAll_34 (by decide) ?_
      exact hk4 (b1 ||| ((1 : Int32) <<< (b2 &&& 31))) (b2 + 1) w
def f_X4_calledAll (a0 : Nat) (w : aW) : Option (Int32 × aW) :=
  loop3 (c_X4_calledAll_4 a0) a_fuel (0 : Int32) (0 : Int32) w
theorem s_X4_calledAll (a0 : Nat) (w : aW) : Sp rvI M_X4_calledAll [.ref a0] w (f_X4_calledAll a0 w) := by
  refine e_entry [some (.ref a0), none, none] (by decide +kernel) (Nat.le_of_ble_eq_true rfl) (fun _ => rfl) ?_
  unfold f_X4_calledAll
  refine e_iconst (pc := 0) dX4_calledAll_0 kc_0 ?_
  refine e_istore_n (L' := [some (.ref a0), some (.int (0 : Int32)), none]) (pc := 1) dX4_calledAll_1 rfl (by decide) rfl ?_
  refine e_iconst (pc := 2) dX4_calledAll_2 kc_0 ?_
  refine e_istore_n (L' := [some (.ref a0), some (.int (0 : Int32)), some (.int (0 : Int32))]) (pc := 3) dX4_calledAll_3 rfl (by decide) rfl ?_
  exact e_loop3 (L := fun b1 b2 => [some (.ref a0), some (.int b1), some (.int b2)]) (S := fun b1 b2 => []) (fun kf hkf => t_X4_calledAll_4 a0  kf hkf) _ (0 : Int32) (0 : Int32) w
def M_X4_needBy : aM := (yX4_needBy, cX4_needBy, 4, (some .int), 1, 22)
theorem ok_X4_needBy : a_okM M_X4_needBy 1 := ⟨⟨by decide +kernel, by decide +kernel⟩, by decide +kernel, a_in 1154 (by decide +kernel) rfl, a_in 79 (by decide +kernel) rfl⟩
theorem dX4_needBy_0 : decode M_X4_needBy.2.1 0 = .ok (.iconst 0, 1) := by decide +kernel
theorem dX4_needBy_1 : decode M_X4_needBy.2.1 1 = .ok (.istore_n 2, 1) := by decide +kernel
theorem dX4_needBy_2 : decode M_X4_needBy.2.1 2 = .ok (.iconst 0, 1) := by decide +kernel
theorem dX4_needBy_3 : decode M_X4_needBy.2.1 3 = .ok (.istore_n 3, 1) := by decide +kernel
theorem dX4_needBy_4 : decode M_X4_needBy.2.1 4 = .ok (.iload_n 3, 1) := by decide +kernel
theorem dX4_needBy_5 : decode M_X4_needBy.2.1 5 = .ok (.aload_n 0, 1) := by decide +kernel
theorem dX4_needBy_6 : decode M_X4_needBy.2.1 6 = .ok (.getfield 92, 3) := by decide +kernel
theorem dX4_needBy_9 : decode M_X4_needBy.2.1 9 = .ok (.if_icmp .ge 31, 3) := by decide +kernel
theorem dX4_needBy_12 : decode M_X4_needBy.2.1 12 = .ok (.iload_n 2, 1) := by decide +kernel
theorem dX4_needBy_13 : decode M_X4_needBy.2.1 13 = .ok (.aload_n 0, 1) := by decide +kernel
theorem dX4_needBy_14 : decode M_X4_needBy.2.1 14 = .ok (.getfield 22, 3) := by decide +kernel
theorem dX4_needBy_17 : decode M_X4_needBy.2.1 17 = .ok (.iload_n 3, 1) := by decide +kernel
theorem dX4_needBy_18 : decode M_X4_needBy.2.1 18 = .ok (.iaload, 1) := by decide +kernel
theorem dX4_needBy_19 : decode M_X4_needBy.2.1 19 = .ok (.iload_n 1, 1) := by decide +kernel
theorem dX4_needBy_20 : decode M_X4_needBy.2.1 20 = .ok (.if_icmp .ne 11, 3) := by decide +kernel
theorem dX4_needBy_23 : decode M_X4_needBy.2.1 23 = .ok (.aload_n 0, 1) := by decide +kernel
theorem dX4_needBy_24 : decode M_X4_needBy.2.1 24 = .ok (.iload_n 3, 1) := by decide +kernel
theorem dX4_needBy_25 : decode M_X4_needBy.2.1 25 = .ok (.invokevirtual 118, 3) := by decide +kernel
theorem dX4_needBy_28 : decode M_X4_needBy.2.1 28 = .ok (.goto 4, 3) := by decide +kernel
theorem dX4_needBy_31 : decode M_X4_needBy.2.1 31 = .ok (.iconst 0, 1) := by decide +kernel
theorem dX4_needBy_32 : decode M_X4_needBy.2.1 32 = .ok (.iadd, 1) := by decide +kernel
theorem dX4_needBy_33 : decode M_X4_needBy.2.1 33 = .ok (.istore_n 2, 1) := by decide +kernel
theorem dX4_needBy_34 : decode M_X4_needBy.2.1 34 = .ok (.iinc 3 1, 3) := by decide +kernel
theorem dX4_needBy_37 : decode M_X4_needBy.2.1 37 = .ok (.goto (-33), 3) := by decide +kernel
theorem dX4_needBy_40 : decode M_X4_needBy.2.1 40 = .ok (.iload_n 2, 1) := by decide +kernel
theorem dX4_needBy_41 : decode M_X4_needBy.2.1 41 = .ok (.ireturn, 1) := by decide +kernel
theorem hv_X4_118 : a_okV RX4 M_X4_needOf 118 := ⟨a_in 1121 (by decide +kernel) rfl, a_in 1123 (by decide +kernel) rfl, a_in 49 (by decide +kernel) rfl⟩
def c_X4_needBy_4 (a0 : Nat) (a1 : Int32) (k4 : Int32 → Int32 → aW → Option (Int32 × aW)) (b2 : Int32) (b3 : Int32) (w : aW) : Option (Int32 × aW) :=
  (gI 3 w a0 0).bind fun x1 =>
  if x1 ≤ b3 then
    some (b2, w)
  else
    (gR 3 w a0 5).bind fun r2 =>
    (gA w r2 b3).bind fun x3 =>
    if ¬ x3 = a1 then
      k4 (b2 + (0 : Int32)) (b3 + 1) w
    else
      cV 3 w a0 (bk (f_X4_needOf a0 b3 w) fun x5 w4 =>
      k4 (b2 + x5) (b3 + 1) w4)
theorem t_X4_needBy_4 (a0 : Nat) (a1 : Int32) (k4 : Int32 → Int32 → aW → Option (Int32 × aW)) (hk4 : ∀ (b2 : Int32) (b3 : Int32) (w : aW), Ev rvI M_X4_needBy 4 [some (.ref a0), some (.int a1), some (.int b2), some (.int b3)] [] w (k4 b2 b3 w)) (b2 : Int32) (b3 : Int32) (w : aW) : Ev rvI M_X4_needBy 4 [some (.ref a0), some (.int a1), some (.int b2), some (.int b3)] [] w (c_X4_needBy_4 a0 a1 k4 b2 b3 w) := by
  unfold c_X4_needBy_4
  refine e_iload_n (pc := 4) dX4_needBy_4 rfl rfl ?_
  refine e_aload_n (pc := 5) dX4_needBy_5 rfl rfl ?_
  refine e_getI (pc := 6) dX4_needBy_6 hs_X4_92 (fun x1 => ?_)
  refine e_icmp_ge (pc := 9) (tgt := 40) dX4_needBy_9 (by decide) (fun _ => ?_) (fun _ => ?_)
  · refine e_iload_n (pc := 40) dX4_needBy_40 rfl rfl ?_
    exact e_iret (pc := 41) dX4_needBy_41 rfl rfl
  · refine e_iload_n (pc := 12) dX4_needBy_12 rfl rfl ?_
    refine e_aload_n (pc := 13) dX4_needBy_13 rfl rfl ?_
    refine e_getR (pc := 14) dX4_needBy_14 hs_X4_22 (fun r2 => ?_)
    refine e_iload_n (pc := 17) dX4_needBy_17 rfl rfl ?_
    refine e_iald (pc := 18) dX4_needBy_18 (fun x3 => ?_)
    refine e_iload_n (pc := 19) dX4_needBy_19 rfl rfl ?_
    refine e_icmp_ne (pc := 20) (tgt := 31) dX4_needBy_20 (by decide) (fun _ => ?_) (fun _ => ?_)
    · refine e_iconst (pc := 31) dX4_needBy_31 kc_0 ?_
      refine e_iadd (pc := 32) dX4_needBy_32 ?_
      refine e_istore_n (L' := [some (.ref a0), some (.int a1), some (.int (b2 + (0 : Int32))), some (.int b3)]) (pc := 33) dX4_needBy_33 rfl (by decide) rfl ?_
      refine e_iinc (L' := [some (.ref a0), some (.int a1), some (.int (b2 + (0 : Int32))), some (.int (b3 + 1))]) (pc := 34) (v := 1) dX4_needBy_34 (by decide) rfl kc_1 rfl ?_
      refine e_goto (pc := 37) (tgt := 4) dX4_needBy_37 (by decide) ?_
      exact hk4 (b2 + (0 : Int32)) (b3 + 1) w
    · refine e_aload_n (pc := 23) dX4_needBy_23 rfl rfl ?_
      refine e_iload_n (pc := 24) dX4_needBy_24 rfl rfl ?_
      refine e_callV (pc := 25) (av := [.int b3]) (S := [.int b2]) (c0 := 3) rfl rfl ok_X4_needOf ⟨Nat.le_of_ble_eq_true rfl, Nat.le_of_ble_eq_true rfl⟩ hv_X4_118 dX4_needBy_25 (s_X4_needOf a0 b3 w) rfl rfl (Nat.le_of_ble_eq_true rfl) (fun x5 w4 => ?_)
      refine e_goto (pc := 28) (tgt := 32) dX4_needBy_28 (by decide) ?_
      refine e_iadd (pc := 32) dX4_needBy_32 ?_
      refine e_istore_n (L' := [some (.ref a0), some (.int a1), some (.int (b2 + x5)), some (.int b3)]) (pc := 33) dX4_needBy_33 rfl (by decide) rfl ?_
      refine e_iinc (L' := [some (.ref a0), some (.int a1), some (.int (b2 + x5)), some (.int (b3 + 1))]) (pc := 34) (v := 1) dX4_needBy_34 (by decide) rfl kc_1 rfl ?_
      refine e_goto (pc := 37) (tgt := 4) dX4_needBy_37 (by decide) ?_
      exact hk4 (b2 + x5) (b3 + 1) w4
def f_X4_needBy (a0 : Nat) (a1 : Int32) (w : aW) : Option (Int32 × aW) :=
  loop3 (c_X4_needBy_4 a0 a1) a_fuel (0 : Int32) (0 : Int32) w
theorem s_X4_needBy (a0 : Nat) (a1 : Int32) (w : aW) : Sp rvI M_X4_needBy [.ref a0, .int a1] w (f_X4_needBy a0 a1 w) := by
  refine e_entry [some (.ref a0), some (.int a1), none, none] (by decide +kernel) (Nat.le_of_ble_eq_true rfl) (fun _ => rfl) ?_
  unfold f_X4_needBy
  refine e_iconst (pc := 0) dX4_needBy_0 kc_0 ?_
  refine e_istore_n (L' := [some (.ref a0), some (.int a1), some (.int (0 : Int32)), none]) (pc := 1) dX4_needBy_1 rfl (by decide) rfl ?_
  refine e_iconst (pc := 2) dX4_needBy_2 kc_0 ?_
  refine e_istore_n (L' := [some (.ref a0), some (.int a1), some (.int (0 : Int32)), some (.int (0 : Int32))]) (pc := 3) dX4_needBy_3 rfl (by decide) rfl ?_
  exact e_loop3 (L := fun b2 b3 => [some (.ref a0), some (.int a1), some (.int b2), some (.int b3)]) (S := fun b2 b3 => []) (fun kf hkf => t_X4_needBy_4 a0 a1  kf hkf) _ (0 : Int32) (0 : Int32) w
def M_X4_workBy : aM := (yX4_workBy, cX4_workBy, 4, (some .int), 1, 22)
theorem ok_X4_workBy : a_okM M_X4_workBy 1 := ⟨⟨by decide +kernel, by decide +kernel⟩, by decide +kernel, a_in 1158 (by decide +kernel) rfl, a_in 79 (by decide +kernel) rfl⟩
theorem dX4_workBy_0 : decode M_X4_workBy.2.1 0 = .ok (.iconst 0, 1) := by decide +kernel
theorem dX4_workBy_1 : decode M_X4_workBy.2.1 1 = .ok (.istore_n 2, 1) := by decide +kernel
theorem dX4_workBy_2 : decode M_X4_workBy.2.1 2 = .ok (.iconst 0, 1) := by decide +kernel
theorem dX4_workBy_3 : decode M_X4_workBy.2.1 3 = .ok (.istore_n 3, 1) := by decide +kernel
theorem dX4_workBy_4 : decode M_X4_workBy.2.1 4 = .ok (.iload_n 3, 1) := by decide +kernel
theorem dX4_workBy_5 : decode M_X4_workBy.2.1 5 = .ok (.aload_n 0, 1) := by decide +kernel
theorem dX4_workBy_6 : decode M_X4_workBy.2.1 6 = .ok (.getfield 92, 3) := by decide +kernel
theorem dX4_workBy_9 : decode M_X4_workBy.2.1 9 = .ok (.if_icmp .ge 31, 3) := by decide +kernel
theorem dX4_workBy_12 : decode M_X4_workBy.2.1 12 = .ok (.iload_n 2, 1) := by decide +kernel
theorem dX4_workBy_13 : decode M_X4_workBy.2.1 13 = .ok (.aload_n 0, 1) := by decide +kernel
theorem dX4_workBy_14 : decode M_X4_workBy.2.1 14 = .ok (.getfield 22, 3) := by decide +kernel
theorem dX4_workBy_17 : decode M_X4_workBy.2.1 17 = .ok (.iload_n 3, 1) := by decide +kernel
theorem dX4_workBy_18 : decode M_X4_workBy.2.1 18 = .ok (.iaload, 1) := by decide +kernel
theorem dX4_workBy_19 : decode M_X4_workBy.2.1 19 = .ok (.iload_n 1, 1) := by decide +kernel
theorem dX4_workBy_20 : decode M_X4_workBy.2.1 20 = .ok (.if_icmp .ne 11, 3) := by decide +kernel
theorem dX4_workBy_23 : decode M_X4_workBy.2.1 23 = .ok (.aload_n 0, 1) := by decide +kernel
theorem dX4_workBy_24 : decode M_X4_workBy.2.1 24 = .ok (.iload_n 3, 1) := by decide +kernel
theorem dX4_workBy_25 : decode M_X4_workBy.2.1 25 = .ok (.invokevirtual 121, 3) := by decide +kernel
theorem dX4_workBy_28 : decode M_X4_workBy.2.1 28 = .ok (.goto 4, 3) := by decide +kernel
theorem dX4_workBy_31 : decode M_X4_workBy.2.1 31 = .ok (.iconst 0, 1) := by decide +kernel
theorem dX4_workBy_32 : decode M_X4_workBy.2.1 32 = .ok (.iadd, 1) := by decide +kernel
theorem dX4_workBy_33 : decode M_X4_workBy.2.1 33 = .ok (.istore_n 2, 1) := by decide +kernel
theorem dX4_workBy_34 : decode M_X4_workBy.2.1 34 = .ok (.iinc 3 1, 3) := by decide +kernel
theorem dX4_workBy_37 : decode M_X4_workBy.2.1 37 = .ok (.goto (-33), 3) := by decide +kernel
theorem dX4_workBy_40 : decode M_X4_workBy.2.1 40 = .ok (.iload_n 2, 1) := by decide +kernel
theorem dX4_workBy_41 : decode M_X4_workBy.2.1 41 = .ok (.ireturn, 1) := by decide +kernel
theorem hv_X4_121 : a_okV RX4 M_X4_workOf 121 := ⟨a_in 1110 (by decide +kernel) rfl, a_in 1112 (by decide +kernel) rfl, a_in 47 (by decide +kernel) rfl⟩
def c_X4_workBy_4 (a0 : Nat) (a1 : Int32) (k4 : Int32 → Int32 → aW → Option (Int32 × aW)) (b2 : Int32) (b3 : Int32) (w : aW) : Option (Int32 × aW) :=
  (gI 3 w a0 0).bind fun x1 =>
  if x1 ≤ b3 then
    some (b2, w)
  else
    (gR 3 w a0 5).bind fun r2 =>
    (gA w r2 b3).bind fun x3 =>
    if ¬ x3 = a1 then
      k4 (b2 + (0 : Int32)) (b3 + 1) w
    else
      cV 3 w a0 (bk (f_X4_workOf a0 b3 w) fun x5 w4 =>
      k4 (b2 + x5) (b3 + 1) w4)
theorem t_X4_workBy_4 (a0 : Nat) (a1 : Int32) (k4 : Int32 → Int32 → aW → Option (Int32 × aW)) (hk4 : ∀ (b2 : Int32) (b3 : Int32) (w : aW), Ev rvI M_X4_workBy 4 [some (.ref a0), some (.int a1), some (.int b2), some (.int b3)] [] w (k4 b2 b3 w)) (b2 : Int32) (b3 : Int32) (w : aW) : Ev rvI M_X4_workBy 4 [some (.ref a0), some (.int a1), some (.int b2), some (.int b3)] [] w (c_X4_workBy_4 a0 a1 k4 b2 b3 w) := by
  unfold c_X4_workBy_4
  refine e_iload_n (pc := 4) dX4_workBy_4 rfl rfl ?_
  refine e_aload_n (pc := 5) dX4_workBy_5 rfl rfl ?_
  refine e_getI (pc := 6) dX4_workBy_6 hs_X4_92 (fun x1 => ?_)
  refine e_icmp_ge (pc := 9) (tgt := 40) dX4_workBy_9 (by decide) (fun _ => ?_) (fun _ => ?_)
  · refine e_iload_n (pc := 40) dX4_workBy_40 rfl rfl ?_
    exact e_iret (pc := 41) dX4_workBy_41 rfl rfl
  · refine e_iload_n (pc := 12) dX4_workBy_12 rfl rfl ?_
    refine e_aload_n (pc := 13) dX4_workBy_13 rfl rfl ?_
    refine e_getR (pc := 14) dX4_workBy_14 hs_X4_22 (fun r2 => ?_)
    refine e_iload_n (pc := 17) dX4_workBy_17 rfl rfl ?_
    refine e_iald (pc := 18) dX4_workBy_18 (fun x3 => ?_)
    refine e_iload_n (pc := 19) dX4_workBy_19 rfl rfl ?_
    refine e_icmp_ne (pc := 20) (tgt := 31) dX4_workBy_20 (by decide) (fun _ => ?_) (fun _ => ?_)
    · refine e_iconst (pc := 31) dX4_workBy_31 kc_0 ?_
      refine e_iadd (pc := 32) dX4_workBy_32 ?_
      refine e_istore_n (L' := [some (.ref a0), some (.int a1), some (.int (b2 + (0 : Int32))), some (.int b3)]) (pc := 33) dX4_workBy_33 rfl (by decide) rfl ?_
      refine e_iinc (L' := [some (.ref a0), some (.int a1), some (.int (b2 + (0 : Int32))), some (.int (b3 + 1))]) (pc := 34) (v := 1) dX4_workBy_34 (by decide) rfl kc_1 rfl ?_
      refine e_goto (pc := 37) (tgt := 4) dX4_workBy_37 (by decide) ?_
      exact hk4 (b2 + (0 : Int32)) (b3 + 1) w
    · refine e_aload_n (pc := 23) dX4_workBy_23 rfl rfl ?_
      refine e_iload_n (pc := 24) dX4_workBy_24 rfl rfl ?_
      refine e_callV (pc := 25) (av := [.int b3]) (S := [.int b2]) (c0 := 3) rfl rfl ok_X4_workOf ⟨Nat.le_of_ble_eq_true rfl, Nat.le_of_ble_eq_true rfl⟩ hv_X4_121 dX4_workBy_25 (s_X4_workOf a0 b3 w) rfl rfl (Nat.le_of_ble_eq_true rfl) (fun x5 w4 => ?_)
      refine e_goto (pc := 28) (tgt := 32) dX4_workBy_28 (by decide) ?_
      refine e_iadd (pc := 32) dX4_workBy_32 ?_
      refine e_istore_n (L' := [some (.ref a0), some (.int a1), some (.int (b2 + x5)), some (.int b3)]) (pc := 33) dX4_workBy_33 rfl (by decide) rfl ?_
      refine e_iinc (L' := [some (.ref a0), some (.int a1), some (.int (b2 + x5)), some (.int (b3 + 1))]) (pc := 34) (v := 1) dX4_workBy_34 (by decide) rfl kc_1 rfl ?_
      refine e_goto (pc := 37) (tgt := 4) dX4_workBy_37 (by decide) ?_
      exact hk4 (b2 + x5) (b3 + 1) w4
def f_X4_workBy (a0 : Nat) (a1 : Int32) (w : aW) : Option (Int32 × aW) :=
  loop3 (c_X4_workBy_4 a0 a1) a_fuel (0 : Int32) (0 : Int32) w
theorem s_X4_workBy (a0 : Nat) (a1 : Int32) (w : aW) : Sp rvI M_X4_workBy [.ref a0, .int a1] w (f_X4_workBy a0 a1 w) := by
  refine e_entry [some (.ref a0), some (.int a1), none, none] (by decide +kernel) (Nat.le_of_ble_eq_true rfl) (fun _ => rfl) ?_
  unfold f_X4_workBy
  refine e_iconst (pc := 0) dX4_workBy_0 kc_0 ?_
  refine e_istore_n (L' := [some (.ref a0), some (.int a1), some (.int (0 : Int32)), none]) (pc := 1) dX4_workBy_1 rfl (by decide) rfl ?_
  refine e_iconst (pc := 2) dX4_workBy_2 kc_0 ?_
  refine e_istore_n (L' := [some (.ref a0), some (.int a1), some (.int (0 : Int32)), some (.int (0 : Int32))]) (pc := 3) dX4_workBy_3 rfl (by decide) rfl ?_
  exact e_loop3 (L := fun b2 b3 => [some (.ref a0), some (.int a1), some (.int b2), some (.int b3)]) (S := fun b2 b3 => []) (fun kf hkf => t_X4_workBy_4 a0 a1  kf hkf) _ (0 : Int32) (0 : Int32) w
def M_X4_allMeans : aM := (yX4_allMeans, cX4_allMeans, 3, (some .int), 0, 0)
theorem ok_X4_allMeans : a_okM M_X4_allMeans 0 := ⟨⟨by decide +kernel, by decide +kernel⟩, by decide +kernel, a_in 1377 (by decide +kernel) rfl, a_in 79 (by decide +kernel) rfl⟩
theorem dX4_allMeans_0 : decode M_X4_allMeans.2.1 0 = .ok (.iconst 0, 1) := by decide +kernel
theorem dX4_allMeans_1 : decode M_X4_allMeans.2.1 1 = .ok (.istore_n 1, 1) := by decide +kernel
theorem dX4_allMeans_2 : decode M_X4_allMeans.2.1 2 = .ok (.iconst 0, 1) := by decide +kernel
theorem dX4_allMeans_3 : decode M_X4_allMeans.2.1 3 = .ok (.istore_n 2, 1) := by decide +kernel
theorem dX4_allMeans_4 : decode M_X4_allMeans.2.1 4 = .ok (.iload_n 2, 1) := by decide +kernel
theorem dX4_allMeans_5 : decode M_X4_allMeans.2.1 5 = .ok (.iconst 5, 1) := by decide +kernel
theorem dX4_allMeans_6 : decode M_X4_allMeans.2.1 6 = .ok (.if_icmp .ge 18, 3) := by decide +kernel
theorem dX4_allMeans_9 : decode M_X4_allMeans.2.1 9 = .ok (.iload_n 1, 1) := by decide +kernel
theorem dX4_allMeans_10 : decode M_X4_allMeans.2.1 10 = .ok (.aload_n 0, 1) := by decide +kernel
theorem dX4_allMeans_11 : decode M_X4_allMeans.2.1 11 = .ok (.getfield 25, 3) := by decide +kernel
theorem dX4_allMeans_14 : decode M_X4_allMeans.2.1 14 = .ok (.iload_n 2, 1) := by decide +kernel
theorem dX4_allMeans_15 : decode M_X4_allMeans.2.1 15 = .ok (.iaload, 1) := by decide +kernel
theorem dX4_allMeans_16 : decode M_X4_allMeans.2.1 16 = .ok (.iadd, 1) := by decide +kernel
theorem dX4_allMeans_17 : decode M_X4_allMeans.2.1 17 = .ok (.istore_n 1, 1) := by decide +kernel
theorem dX4_allMeans_18 : decode M_X4_allMeans.2.1 18 = .ok (.iinc 2 1, 3) := by decide +kernel
theorem dX4_allMeans_21 : decode M_X4_allMeans.2.1 21 = .ok (.goto (-17), 3) := by decide +kernel
theorem dX4_allMeans_24 : decode M_X4_allMeans.2.1 24 = .ok (.iload_n 1, 1) := by decide +kernel
theorem dX4_allMeans_25 : decode M_X4_allMeans.2.1 25 = .ok (.ireturn, 1) := by decide +kernel
def c_X4_allMeans_4 (a0 : Nat) (k4 : Int32 → Int32 → aW → Option (Int32 × aW)) (b1 : Int32) (b2 : Int32) (w : aW) : Option (Int32 × aW) :=
  if (5 : Int32) ≤ b2 then
    some (b1, w)
  else
    (gR 3 w a0 7).bind fun r1 =>
    (gA w r1 b2).bind fun x2 =>
    k4 (b1 + x2) (b2 + 1) w
theorem t_X4_allMeans_4 (a0 : Nat) (k4 : Int32 → Int32 → aW → Option (Int32 × aW)) (hk4 : ∀ (b1 : Int32) (b2 : Int32) (w : aW), Ev rvI M_X4_allMeans 4 [some (.ref a0), some (.int b1), some (.int b2)] [] w (k4 b1 b2 w)) (b1 : Int32) (b2 : Int32) (w : aW) : Ev rvI M_X4_allMeans 4 [some (.ref a0), some (.int b1), some (.int b2)] [] w (c_X4_allMeans_4 a0 k4 b1 b2 w) := by
  unfold c_X4_allMeans_4
  refine e_iload_n (pc := 4) dX4_allMeans_4 rfl rfl ?_
  refine e_iconst (pc := 5) dX4_allMeans_5 kc_5 ?_
  refine e_icmp_ge (pc := 6) (tgt := 24) dX4_allMeans_6 (by decide) (fun _ => ?_) (fun _ => ?_)
  · refine e_iload_n (pc := 24) dX4_allMeans_24 rfl rfl ?_
    exact e_iret (pc := 25) dX4_allMeans_25 rfl rfl
  · refine e_iload_n (pc := 9) dX4_allMeans_9 rfl rfl ?_
    refine e_aload_n (pc := 10) dX4_allMeans_10 rfl rfl ?_
    refine e_getR (pc := 11) dX4_allMeans_11 hs_X4_25 (fun r1 => ?_)
    refine e_iload_n (pc := 14) dX4_allMeans_14 rfl rfl ?_
    refine e_iald (pc := 15) dX4_allMeans_15 (fun x2 => ?_)
    refine e_iadd (pc := 16) dX4_allMeans_16 ?_
    refine e_istore_n (L' := [some (.ref a0), some (.int (b1 + x2)), some (.int b2)]) (pc := 17) dX4_allMeans_17 rfl (by decide) rfl ?_
    refine e_iinc (L' := [some (.ref a0), some (.int (b1 + x2)), some (.int (b2 + 1))]) (pc := 18) (v := 1) dX4_allMeans_18 (by decide) rfl kc_1 rfl ?_
    refine e_goto (pc := 21) (tgt := 4) dX4_allMeans_21 (by decide) ?_
    exact hk4 (b1 + x2) (b2 + 1) w
def f_X4_allMeans (a0 : Nat) (w : aW) : Option (Int32 × aW) :=
  loop3 (c_X4_allMeans_4 a0) a_fuel (0 : Int32) (0 : Int32) w
theorem s_X4_allMeans (a0 : Nat) (w : aW) : Sp rvI M_X4_allMeans [.ref a0] w (f_X4_allMeans a0 w) := by
  refine e_entry [some (.ref a0), none, none] (by decide +kernel) (Nat.le_of_ble_eq_true rfl) (fun _ => rfl) ?_
  unfold f_X4_allMeans
  refine e_iconst (pc := 0) dX4_allMeans_0 kc_0 ?_
  refine e_istore_n (L' := [some (.ref a0), some (.int (0 : Int32)), none]) (pc := 1) dX4_allMeans_1 rfl (by decide) rfl ?_
  refine e_iconst (pc := 2) dX4_allMeans_2 kc_0 ?_
  refine e_istore_n (L' := [some (.ref a0), some (.int (0 : Int32)), some (.int (0 : Int32))]) (pc := 3) dX4_allMeans_3 rfl (by decide) rfl ?_
  exact e_loop3 (L := fun b1 b2 => [some (.ref a0), some (.int b1), some (.int b2)]) (S := fun b1 b2 => []) (fun kf hkf => t_X4_allMeans_4 a0  kf hkf) _ (0 : Int32) (0 : Int32) w
def M_X4_goes : aM := (yX4_goes, cX4_goes, 3, none, 3, 70)
theorem ok_X4_goes : a_okM M_X4_goes 1 := ⟨⟨by decide +kernel, by decide +kernel⟩, by decide +kernel, a_in 1082 (by decide +kernel) rfl, a_in 79 (by decide +kernel) rfl⟩
theorem dX4_goes_0 : decode M_X4_goes.2.1 0 = .ok (.aload_n 0, 1) := by decide +kernel
theorem dX4_goes_1 : decode M_X4_goes.2.1 1 = .ok (.iload_n 1, 1) := by decide +kernel
theorem dX4_goes_2 : decode M_X4_goes.2.1 2 = .ok (.aload_n 0, 1) := by decide +kernel
theorem dX4_goes_3 : decode M_X4_goes.2.1 3 = .ok (.getfield 124, 3) := by decide +kernel
theorem dX4_goes_6 : decode M_X4_goes.2.1 6 = .ok (.invokevirtual 127, 3) := by decide +kernel
theorem dX4_goes_9 : decode M_X4_goes.2.1 9 = .ok (.istore_n 2, 1) := by decide +kernel
theorem dX4_goes_10 : decode M_X4_goes.2.1 10 = .ok (.iload_n 2, 1) := by decide +kernel
theorem dX4_goes_11 : decode M_X4_goes.2.1 11 = .ok (.ifCond .lt 41, 3) := by decide +kernel
theorem dX4_goes_14 : decode M_X4_goes.2.1 14 = .ok (.aload_n 0, 1) := by decide +kernel
theorem dX4_goes_15 : decode M_X4_goes.2.1 15 = .ok (.getfield 16, 3) := by decide +kernel
theorem dX4_goes_18 : decode M_X4_goes.2.1 18 = .ok (.iload_n 1, 1) := by decide +kernel
theorem dX4_goes_19 : decode M_X4_goes.2.1 19 = .ok (.dup2, 1) := by decide +kernel
theorem dX4_goes_20 : decode M_X4_goes.2.1 20 = .ok (.iaload, 1) := by decide +kernel
theorem dX4_goes_21 : decode M_X4_goes.2.1 21 = .ok (.aload_n 0, 1) := by decide +kernel
theorem dX4_goes_22 : decode M_X4_goes.2.1 22 = .ok (.getfield 16, 3) := by decide +kernel
theorem dX4_goes_25 : decode M_X4_goes.2.1 25 = .ok (.iload_n 1, 1) := by decide +kernel
theorem dX4_goes_26 : decode M_X4_goes.2.1 26 = .ok (.iaload, 1) := by decide +kernel
theorem dX4_goes_27 : decode M_X4_goes.2.1 27 = .ok (.iload_n 2, 1) := by decide +kernel
theorem dX4_goes_28 : decode M_X4_goes.2.1 28 = .ok (.if_icmp .ge 7, 3) := by decide +kernel
theorem dX4_goes_31 : decode M_X4_goes.2.1 31 = .ok (.iconst 1, 1) := by decide +kernel
theorem dX4_goes_32 : decode M_X4_goes.2.1 32 = .ok (.goto 18, 3) := by decide +kernel
theorem dX4_goes_35 : decode M_X4_goes.2.1 35 = .ok (.aload_n 0, 1) := by decide +kernel
theorem dX4_goes_36 : decode M_X4_goes.2.1 36 = .ok (.getfield 16, 3) := by decide +kernel
theorem dX4_goes_39 : decode M_X4_goes.2.1 39 = .ok (.iload_n 1, 1) := by decide +kernel
theorem dX4_goes_40 : decode M_X4_goes.2.1 40 = .ok (.iaload, 1) := by decide +kernel
theorem dX4_goes_41 : decode M_X4_goes.2.1 41 = .ok (.iload_n 2, 1) := by decide +kernel
theorem dX4_goes_42 : decode M_X4_goes.2.1 42 = .ok (.if_icmp .le 7, 3) := by decide +kernel
theorem dX4_goes_45 : decode M_X4_goes.2.1 45 = .ok (.iconst (-1), 1) := by decide +kernel
theorem dX4_goes_46 : decode M_X4_goes.2.1 46 = .ok (.goto 4, 3) := by decide +kernel
theorem dX4_goes_49 : decode M_X4_goes.2.1 49 = .ok (.iconst 0, 1) := by decide +kernel
theorem dX4_goes_50 : decode M_X4_goes.2.1 50 = .ok (.iadd, 1) := by decide +kernel
theorem dX4_goes_51 : decode M_X4_goes.2.1 51 = .ok (.iastore, 1) := by decide +kernel
theorem dX4_goes_52 : decode M_X4_goes.2.1 52 = .ok (.return_, 1) := by decide +kernel
theorem hs_X4_124 : a_fs RX4 124 3 11 := ⟨RX4, TX4, 37, rfl, tin_X4, by decide, a_in 876 (by decide +kernel) rfl⟩
theorem hv_X4_127 : a_okV RX4 M_X4_wantsOf 127 := ⟨a_in 1083 (by decide +kernel) rfl, a_in 1085 (by decide +kernel) rfl, a_in 41 (by decide +kernel) rfl⟩
def f_X4_goes (a0 : Nat) (a1 : Int32) (w : aW) : Option (Unit × aW) :=
  (gI 3 w a0 11).bind fun x1 =>
  cV 3 w a0 (bk (f_X4_wantsOf a0 a1 x1 w) fun x3 w2 =>
  if x3 < (0 : Int32) then
    some ((), w2)
  else
    (gR 3 w2 a0 3).bind fun r4 =>
    (gA w2 r4 a1).bind fun x5 =>
    (gR 3 w2 a0 3).bind fun r6 =>
    (gA w2 r6 a1).bind fun x7 =>
    if x3 ≤ x7 then
      (gR 3 w2 a0 3).bind fun r8 =>
      (gA w2 r8 a1).bind fun x9 =>
      if x9 ≤ x3 then
        (sA w2 r4 a1 (x5 + (0 : Int32))).bind fun w10 =>
        some ((), w10)
      else
        (sA w2 r4 a1 (x5 + (-1 : Int32))).bind fun w11 =>
        some ((), w11)
    else
      (sA w2 r4 a1 (x5 + (1 : Int32))).bind fun w12 =>
      some ((), w12))
theorem s_X4_goes (a0 : Nat) (a1 : Int32) (w : aW) : Sp rvV M_X4_goes [.ref a0, .int a1] w (f_X4_goes a0 a1 w) := by
  refine e_entry [some (.ref a0), some (.int a1), none] (by decide +kernel) (Nat.le_of_ble_eq_true rfl) (fun _ => rfl) ?_
  unfold f_X4_goes
  refine e_aload_n (pc := 0) dX4_goes_0 rfl rfl ?_
  refine e_iload_n (pc := 1) dX4_goes_1 rfl rfl ?_
  refine e_aload_n (pc := 2) dX4_goes_2 rfl rfl ?_
  refine e_getI (pc := 3) dX4_goes_3 hs_X4_124 (fun x1 => ?_)
  refine e_callV (pc := 6) (av := [.int a1, .int x1]) (S := []) (c0 := 3) rfl rfl ok_X4_wantsOf ⟨Nat.le_of_ble_eq_true rfl, Nat.le_of_ble_eq_true rfl⟩ hv_X4_127 dX4_goes_6 (s_X4_wantsOf a0 a1 x1 w) rfl rfl (Nat.le_of_ble_eq_true rfl) (fun x3 w2 => ?_)
  refine e_istore_n (L' := [some (.ref a0), some (.int a1), some (.int x3)]) (pc := 9) dX4_goes_9 rfl (by decide) rfl ?_
  refine e_iload_n (pc := 10) dX4_goes_10 rfl rfl ?_
  refine e_if_lt (pc := 11) (tgt := 52) dX4_goes_11 (by decide) (fun _ => ?_) (fun _ => ?_)
  · exact e_vret (pc := 52) dX4_goes_52 rfl
  · refine e_aload_n (pc := 14) dX4_goes_14 rfl rfl ?_
    refine e_getR (pc := 15) dX4_goes_15 hs_X4_16 (fun r4 => ?_)
    refine e_iload_n (pc := 18) dX4_goes_18 rfl rfl ?_
    refine e_dup2 (pc := 19) dX4_goes_19 rfl rfl ?_
    refine e_iald (pc := 20) dX4_goes_20 (fun x5 => ?_)
    refine e_aload_n (pc := 21) dX4_goes_21 rfl rfl ?_
    refine e_getR (pc := 22) dX4_goes_22 hs_X4_16 (fun r6 => ?_)
    refine e_iload_n (pc := 25) dX4_goes_25 rfl rfl ?_
    refine e_iald (pc := 26) dX4_goes_26 (fun x7 => ?_)
    refine e_iload_n (pc := 27) dX4_goes_27 rfl rfl ?_
    refine e_icmp_ge (pc := 28) (tgt := 35) dX4_goes_28 (by decide) (fun _ => ?_) (fun _ => ?_)
    · refine e_aload_n (pc := 35) dX4_goes_35 rfl rfl ?_
      refine e_getR (pc := 36) dX4_goes_36 hs_X4_16 (fun r8 => ?_)
      refine e_iload_n (pc := 39) dX4_goes_39 rfl rfl ?_
      refine e_iald (pc := 40) dX4_goes_40 (fun x9 => ?_)
      refine e_iload_n (pc := 41) dX4_goes_41 rfl rfl ?_
      refine e_icmp_le (pc := 42) (tgt := 49) dX4_goes_42 (by decide) (fun _ => ?_) (fun _ => ?_)
      · refine e_iconst (pc := 49) dX4_goes_49 kc_0 ?_
        refine e_iadd (pc := 50) dX4_goes_50 ?_
        refine e_iast (pc := 51) dX4_goes_51 (fun w10 => ?_)
        exact e_vret (pc := 52) dX4_goes_52 rfl
      · refine e_iconst (pc := 45) dX4_goes_45 kc_m1 ?_
        refine e_goto (pc := 46) (tgt := 50) dX4_goes_46 (by decide) ?_
        refine e_iadd (pc := 50) dX4_goes_50 ?_
        refine e_iast (pc := 51) dX4_goes_51 (fun w11 => ?_)
        exact e_vret (pc := 52) dX4_goes_52 rfl
    · refine e_iconst (pc := 31) dX4_goes_31 kc_1 ?_
      refine e_goto (pc := 32) (tgt := 50) dX4_goes_32 (by decide) ?_
      refine e_iadd (pc := 50) dX4_goes_50 ?_
      refine e_iast (pc := 51) dX4_goes_51 (fun w12 => ?_)
      exact e_vret (pc := 52) dX4_goes_52 rfl
def M_X4_isMet : aM := (yX4_isMet, cX4_isMet, 3, (some .boolean), 2, 42)
theorem ok_X4_isMet : a_okM M_X4_isMet 2 := ⟨⟨by decide +kernel, by decide +kernel⟩, by decide +kernel, a_in 1105 (by decide +kernel) rfl, a_in 79 (by decide +kernel) rfl⟩
theorem dX4_isMet_0 : decode M_X4_isMet.2.1 0 = .ok (.aload_n 0, 1) := by decide +kernel
theorem dX4_isMet_1 : decode M_X4_isMet.2.1 1 = .ok (.iload_n 2, 1) := by decide +kernel
theorem dX4_isMet_2 : decode M_X4_isMet.2.1 2 = .ok (.invokevirtual 114, 3) := by decide +kernel
theorem dX4_isMet_5 : decode M_X4_isMet.2.1 5 = .ok (.ifCond .eq 22, 3) := by decide +kernel
theorem dX4_isMet_8 : decode M_X4_isMet.2.1 8 = .ok (.aload_n 0, 1) := by decide +kernel
theorem dX4_isMet_9 : decode M_X4_isMet.2.1 9 = .ok (.getfield 16, 3) := by decide +kernel
theorem dX4_isMet_12 : decode M_X4_isMet.2.1 12 = .ok (.iload_n 2, 1) := by decide +kernel
theorem dX4_isMet_13 : decode M_X4_isMet.2.1 13 = .ok (.iaload, 1) := by decide +kernel
theorem dX4_isMet_14 : decode M_X4_isMet.2.1 14 = .ok (.aload_n 0, 1) := by decide +kernel
theorem dX4_isMet_15 : decode M_X4_isMet.2.1 15 = .ok (.getfield 28, 3) := by decide +kernel
theorem dX4_isMet_18 : decode M_X4_isMet.2.1 18 = .ok (.iload_n 1, 1) := by decide +kernel
theorem dX4_isMet_19 : decode M_X4_isMet.2.1 19 = .ok (.iaload, 1) := by decide +kernel
theorem dX4_isMet_20 : decode M_X4_isMet.2.1 20 = .ok (.if_icmp .ne 7, 3) := by decide +kernel
theorem dX4_isMet_23 : decode M_X4_isMet.2.1 23 = .ok (.iconst 1, 1) := by decide +kernel
theorem dX4_isMet_24 : decode M_X4_isMet.2.1 24 = .ok (.goto 4, 3) := by decide +kernel
theorem dX4_isMet_27 : decode M_X4_isMet.2.1 27 = .ok (.iconst 0, 1) := by decide +kernel
theorem dX4_isMet_28 : decode M_X4_isMet.2.1 28 = .ok (.ireturn, 1) := by decide +kernel
def f_X4_isMet (a0 : Nat) (a1 : Int32) (a2 : Int32) (w : aW) : Option (Int32 × aW) :=
  cV 3 w a0 (bk (f_X4_isFree a0 a2 w) fun x2 w1 =>
  if x2 = (0 : Int32) then
    some ((0 : Int32), w1)
  else
    (gR 3 w1 a0 3).bind fun r3 =>
    (gA w1 r3 a2).bind fun x4 =>
    (gR 3 w1 a0 8).bind fun r5 =>
    (gA w1 r5 a1).bind fun x6 =>
    if ¬ x4 = x6 then
      some ((0 : Int32), w1)
    else
      some ((1 : Int32), w1))
theorem s_X4_isMet (a0 : Nat) (a1 : Int32) (a2 : Int32) (w : aW) : Sp rvI M_X4_isMet [.ref a0, .int a1, .int a2] w (f_X4_isMet a0 a1 a2 w) := by
  refine e_entry [some (.ref a0), some (.int a1), some (.int a2)] (by decide +kernel) (Nat.le_of_ble_eq_true rfl) (fun _ => rfl) ?_
  unfold f_X4_isMet
  refine e_aload_n (pc := 0) dX4_isMet_0 rfl rfl ?_
  refine e_iload_n (pc := 1) dX4_isMet_1 rfl rfl ?_
  refine e_callV (pc := 2) (av := [.int a2]) (S := []) (c0 := 3) rfl rfl ok_X4_isFree ⟨Nat.le_of_ble_eq_true rfl, Nat.le_of_ble_eq_true rfl⟩ hv_X4_114 dX4_isMet_2 (s_X4_isFree a0 a2 w) rfl rfl (Nat.le_of_ble_eq_true rfl) (fun x2 w1 => ?_)
  refine e_if_eq (pc := 5) (tgt := 27) dX4_isMet_5 (by decide) (fun _ => ?_) (fun _ => ?_)
  · refine e_iconst (pc := 27) dX4_isMet_27 kc_0 ?_
    exact e_iret (pc := 28) dX4_isMet_28 rfl (a_nb (by decide))
  · refine e_aload_n (pc := 8) dX4_isMet_8 rfl rfl ?_
    refine e_getR (pc := 9) dX4_isMet_9 hs_X4_16 (fun r3 => ?_)
    refine e_iload_n (pc := 12) dX4_isMet_12 rfl rfl ?_
    refine e_iald (pc := 13) dX4_isMet_13 (fun x4 => ?_)
    refine e_aload_n (pc := 14) dX4_isMet_14 rfl rfl ?_
    refine e_getR (pc := 15) dX4_isMet_15 hs_X4_28 (fun r5 => ?_)
    refine e_iload_n (pc := 18) dX4_isMet_18 rfl rfl ?_
    refine e_iald (pc := 19) dX4_isMet_19 (fun x6 => ?_)
    refine e_icmp_ne (pc := 20) (tgt := 27) dX4_isMet_20 (by decide) (fun _ => ?_) (fun _ => ?_)
    · refine e_iconst (pc := 27) dX4_isMet_27 kc_0 ?_
      exact e_iret (pc := 28) dX4_isMet_28 rfl (a_nb (by decide))
    · refine e_iconst (pc := 23) dX4_isMet_23 kc_1 ?_
      refine e_goto (pc := 24) (tgt := 28) dX4_isMet_24 (by decide) ?_
      exact e_iret (pc := 28) dX4_isMet_28 rfl (a_nb (by decide))
def M_X4_speaks : aM := (yX4_speaks, cX4_speaks, 5, none, 3, 64)
theorem ok_X4_speaks : a_okM M_X4_speaks 1 := ⟨⟨by decide +kernel, by decide +kernel⟩, by decide +kernel, a_in 1101 (by decide +kernel) rfl, a_in 79 (by decide +kernel) rfl⟩
theorem dX4_speaks_0 : decode M_X4_speaks.2.1 0 = .ok (.iconst (-1), 1) := by decide +kernel
theorem dX4_speaks_1 : decode M_X4_speaks.2.1 1 = .ok (.istore_n 2, 1) := by decide +kernel
theorem dX4_speaks_2 : decode M_X4_speaks.2.1 2 = .ok (.iconst 0, 1) := by decide +kernel
theorem dX4_speaks_3 : decode M_X4_speaks.2.1 3 = .ok (.istore_n 3, 1) := by decide +kernel
theorem dX4_speaks_4 : decode M_X4_speaks.2.1 4 = .ok (.iload_n 3, 1) := by decide +kernel
theorem dX4_speaks_5 : decode M_X4_speaks.2.1 5 = .ok (.aload_n 0, 1) := by decide +kernel
theorem dX4_speaks_6 : decode M_X4_speaks.2.1 6 = .ok (.getfield 92, 3) := by decide +kernel
theorem dX4_speaks_9 : decode M_X4_speaks.2.1 9 = .ok (.if_icmp .ge 127, 3) := by decide +kernel
theorem dX4_speaks_12 : decode M_X4_speaks.2.1 12 = .ok (.aload_n 0, 1) := by decide +kernel
theorem dX4_speaks_13 : decode M_X4_speaks.2.1 13 = .ok (.iload_n 1, 1) := by decide +kernel
theorem dX4_speaks_14 : decode M_X4_speaks.2.1 14 = .ok (.iload_n 3, 1) := by decide +kernel
theorem dX4_speaks_15 : decode M_X4_speaks.2.1 15 = .ok (.invokevirtual 130, 3) := by decide +kernel
theorem dX4_speaks_18 : decode M_X4_speaks.2.1 18 = .ok (.istore 4, 2) := by decide +kernel
theorem dX4_speaks_20 : decode M_X4_speaks.2.1 20 = .ok (.aload_n 0, 1) := by decide +kernel
theorem dX4_speaks_21 : decode M_X4_speaks.2.1 21 = .ok (.getfield 31, 3) := by decide +kernel
theorem dX4_speaks_24 : decode M_X4_speaks.2.1 24 = .ok (.iload_n 1, 1) := by decide +kernel
theorem dX4_speaks_25 : decode M_X4_speaks.2.1 25 = .ok (.iaload, 1) := by decide +kernel
theorem dX4_speaks_26 : decode M_X4_speaks.2.1 26 = .ok (.iconst 1, 1) := by decide +kernel
theorem dX4_speaks_27 : decode M_X4_speaks.2.1 27 = .ok (.if_icmp .ne 31, 3) := by decide +kernel
theorem dX4_speaks_30 : decode M_X4_speaks.2.1 30 = .ok (.iload 4, 2) := by decide +kernel
theorem dX4_speaks_32 : decode M_X4_speaks.2.1 32 = .ok (.ifCond .eq 21, 3) := by decide +kernel
theorem dX4_speaks_35 : decode M_X4_speaks.2.1 35 = .ok (.aload_n 0, 1) := by decide +kernel
theorem dX4_speaks_36 : decode M_X4_speaks.2.1 36 = .ok (.getfield 19, 3) := by decide +kernel
theorem dX4_speaks_39 : decode M_X4_speaks.2.1 39 = .ok (.iload_n 3, 1) := by decide +kernel
theorem dX4_speaks_40 : decode M_X4_speaks.2.1 40 = .ok (.iaload, 1) := by decide +kernel
theorem dX4_speaks_41 : decode M_X4_speaks.2.1 41 = .ok (.iconst 5, 1) := by decide +kernel
theorem dX4_speaks_42 : decode M_X4_speaks.2.1 42 = .ok (.if_icmp .lt 11, 3) := by decide +kernel
theorem dX4_speaks_45 : decode M_X4_speaks.2.1 45 = .ok (.iload_n 2, 1) := by decide +kernel
theorem dX4_speaks_46 : decode M_X4_speaks.2.1 46 = .ok (.ifCond .ge 7, 3) := by decide +kernel
theorem dX4_speaks_49 : decode M_X4_speaks.2.1 49 = .ok (.iload_n 3, 1) := by decide +kernel
theorem dX4_speaks_50 : decode M_X4_speaks.2.1 50 = .ok (.goto 4, 3) := by decide +kernel
theorem dX4_speaks_53 : decode M_X4_speaks.2.1 53 = .ok (.iload_n 2, 1) := by decide +kernel
theorem dX4_speaks_54 : decode M_X4_speaks.2.1 54 = .ok (.istore_n 2, 1) := by decide +kernel
theorem dX4_speaks_55 : decode M_X4_speaks.2.1 55 = .ok (.goto 75, 3) := by decide +kernel
theorem dX4_speaks_58 : decode M_X4_speaks.2.1 58 = .ok (.aload_n 0, 1) := by decide +kernel
theorem dX4_speaks_59 : decode M_X4_speaks.2.1 59 = .ok (.getfield 31, 3) := by decide +kernel
theorem dX4_speaks_62 : decode M_X4_speaks.2.1 62 = .ok (.iload_n 1, 1) := by decide +kernel
theorem dX4_speaks_63 : decode M_X4_speaks.2.1 63 = .ok (.iaload, 1) := by decide +kernel
theorem dX4_speaks_64 : decode M_X4_speaks.2.1 64 = .ok (.iconst 2, 1) := by decide +kernel
theorem dX4_speaks_65 : decode M_X4_speaks.2.1 65 = .ok (.if_icmp .ne 43, 3) := by decide +kernel
theorem dX4_speaks_68 : decode M_X4_speaks.2.1 68 = .ok (.iload 4, 2) := by decide +kernel
theorem dX4_speaks_70 : decode M_X4_speaks.2.1 70 = .ok (.ifCond .eq 33, 3) := by decide +kernel
theorem dX4_speaks_73 : decode M_X4_speaks.2.1 73 = .ok (.aload_n 0, 1) := by decide +kernel
theorem dX4_speaks_74 : decode M_X4_speaks.2.1 74 = .ok (.iload_n 3, 1) := by decide +kernel
theorem dX4_speaks_75 : decode M_X4_speaks.2.1 75 = .ok (.invokevirtual 121, 3) := by decide +kernel
theorem dX4_speaks_78 : decode M_X4_speaks.2.1 78 = .ok (.iconst 4, 1) := by decide +kernel
theorem dX4_speaks_79 : decode M_X4_speaks.2.1 79 = .ok (.if_icmp .lt 24, 3) := by decide +kernel
theorem dX4_speaks_82 : decode M_X4_speaks.2.1 82 = .ok (.iload_n 2, 1) := by decide +kernel
theorem dX4_speaks_83 : decode M_X4_speaks.2.1 83 = .ok (.ifCond .lt 16, 3) := by decide +kernel
theorem dX4_speaks_86 : decode M_X4_speaks.2.1 86 = .ok (.aload_n 0, 1) := by decide +kernel
theorem dX4_speaks_87 : decode M_X4_speaks.2.1 87 = .ok (.iload_n 3, 1) := by decide +kernel
theorem dX4_speaks_88 : decode M_X4_speaks.2.1 88 = .ok (.invokevirtual 121, 3) := by decide +kernel
theorem dX4_speaks_91 : decode M_X4_speaks.2.1 91 = .ok (.aload_n 0, 1) := by decide +kernel
theorem dX4_speaks_92 : decode M_X4_speaks.2.1 92 = .ok (.iload_n 2, 1) := by decide +kernel
theorem dX4_speaks_93 : decode M_X4_speaks.2.1 93 = .ok (.invokevirtual 121, 3) := by decide +kernel
theorem dX4_speaks_96 : decode M_X4_speaks.2.1 96 = .ok (.if_icmp .le 7, 3) := by decide +kernel
theorem dX4_speaks_99 : decode M_X4_speaks.2.1 99 = .ok (.iload_n 3, 1) := by decide +kernel
theorem dX4_speaks_100 : decode M_X4_speaks.2.1 100 = .ok (.goto 4, 3) := by decide +kernel
theorem dX4_speaks_103 : decode M_X4_speaks.2.1 103 = .ok (.iload_n 2, 1) := by decide +kernel
theorem dX4_speaks_104 : decode M_X4_speaks.2.1 104 = .ok (.istore_n 2, 1) := by decide +kernel
theorem dX4_speaks_105 : decode M_X4_speaks.2.1 105 = .ok (.goto 25, 3) := by decide +kernel
theorem dX4_speaks_108 : decode M_X4_speaks.2.1 108 = .ok (.aload_n 0, 1) := by decide +kernel
theorem dX4_speaks_109 : decode M_X4_speaks.2.1 109 = .ok (.getfield 31, 3) := by decide +kernel
theorem dX4_speaks_112 : decode M_X4_speaks.2.1 112 = .ok (.iload_n 1, 1) := by decide +kernel
theorem dX4_speaks_113 : decode M_X4_speaks.2.1 113 = .ok (.iaload, 1) := by decide +kernel
theorem dX4_speaks_114 : decode M_X4_speaks.2.1 114 = .ok (.iconst 3, 1) := by decide +kernel
theorem dX4_speaks_115 : decode M_X4_speaks.2.1 115 = .ok (.if_icmp .ne 15, 3) := by decide +kernel
theorem dX4_speaks_118 : decode M_X4_speaks.2.1 118 = .ok (.iload 4, 2) := by decide +kernel
theorem dX4_speaks_120 : decode M_X4_speaks.2.1 120 = .ok (.ifCond .eq 10, 3) := by decide +kernel
theorem dX4_speaks_123 : decode M_X4_speaks.2.1 123 = .ok (.aload_n 0, 1) := by decide +kernel
theorem dX4_speaks_124 : decode M_X4_speaks.2.1 124 = .ok (.getfield 22, 3) := by decide +kernel
theorem dX4_speaks_127 : decode M_X4_speaks.2.1 127 = .ok (.iload_n 3, 1) := by decide +kernel
theorem dX4_speaks_128 : decode M_X4_speaks.2.1 128 = .ok (.iload_n 1, 1) := by decide +kernel
theorem dX4_speaks_129 : decode M_X4_speaks.2.1 129 = .ok (.iastore, 1) := by decide +kernel
theorem dX4_speaks_130 : decode M_X4_speaks.2.1 130 = .ok (.iinc 3 1, 3) := by decide +kernel
theorem dX4_speaks_133 : decode M_X4_speaks.2.1 133 = .ok (.goto (-129), 3) := by decide +kernel
theorem dX4_speaks_136 : decode M_X4_speaks.2.1 136 = .ok (.iload_n 2, 1) := by decide +kernel
theorem dX4_speaks_137 : decode M_X4_speaks.2.1 137 = .ok (.ifCond .lt 10, 3) := by decide +kernel
theorem dX4_speaks_140 : decode M_X4_speaks.2.1 140 = .ok (.aload_n 0, 1) := by decide +kernel
theorem dX4_speaks_141 : decode M_X4_speaks.2.1 141 = .ok (.getfield 22, 3) := by decide +kernel
theorem dX4_speaks_144 : decode M_X4_speaks.2.1 144 = .ok (.iload_n 2, 1) := by decide +kernel
theorem dX4_speaks_145 : decode M_X4_speaks.2.1 145 = .ok (.iload_n 1, 1) := by decide +kernel
theorem dX4_speaks_146 : decode M_X4_speaks.2.1 146 = .ok (.iastore, 1) := by decide +kernel
theorem dX4_speaks_147 : decode M_X4_speaks.2.1 147 = .ok (.return_, 1) := by decide +kernel
theorem hv_X4_130 : a_okV RX4 M_X4_isMet 130 := ⟨a_in 1102 (by decide +kernel) rfl, a_in 1104 (by decide +kernel) rfl, a_in 45 (by decide +kernel) rfl⟩
theorem hs_X4_31 : a_fs RX4 31 3 9 := ⟨RX4, TX4, 37, rfl, tin_X4, by decide, a_in 874 (by decide +kernel) rfl⟩
def c_X4_speaks_4 (a0 : Nat) (a1 : Int32) (k4 : Int32 → Int32 → aW → Option (Unit × aW)) (b2 : Int32) (b3 : Int32) (w : aW) : Option (Unit × aW) :=
  (gI 3 w a0 0).bind fun x1 =>
  if x1 ≤ b3 then
    if b2 < (0 : Int32) then
      some ((), w)
    else
      (gR 3 w a0 5).bind fun r2 =>
      (sA w r2 b2 a1).bind fun w3 =>
      some ((), w3)
  else
    cV 3 w a0 (bk (f_X4_isMet a0 a1 b3 w) fun x5 w4 =>
    (gR 3 w4 a0 9).bind fun r6 =>
    (gA w4 r6 a1).bind fun x7 =>
    if ¬ x7 = (1 : Int32) then
      (gR 3 w4 a0 9).bind fun r8 =>
      (gA w4 r8 a1).bind fun x9 =>
      if ¬ x9 = (2 : Int32) then
        (gR 3 w4 a0 9).bind fun r10 =>
        (gA w4 r10 a1).bind fun x11 =>
        if ¬ x11 = (3 : Int32) then
          k4 b2 (b3 + 1) w4
        else
          if x5 = (0 : Int32) then
            k4 b2 (b3 + 1) w4
          else
            (gR 3 w4 a0 5).bind fun r12 =>
            (sA w4 r12 b3 a1).bind fun w13 =>
            k4 b2 (b3 + 1) w13
      else
        if x5 = (0 : Int32) then
          k4 b2 (b3 + 1) w4
        else
          cV 3 w4 a0 (bk (f_X4_workOf a0 b3 w4) fun x15 w14 =>
          if x15 < (4 : Int32) then
            k4 b2 (b3 + 1) w14
          else
            if b2 < (0 : Int32) then
              k4 b3 (b3 + 1) w14
            else
              cV 3 w14 a0 (bk (f_X4_workOf a0 b3 w14) fun x17 w16 =>
              cV 3 w16 a0 (bk (f_X4_workOf a0 b2 w16) fun x19 w18 =>
              if x17 ≤ x19 then
                k4 b2 (b3 + 1) w18
              else
                k4 b3 (b3 + 1) w18)))
    else
      if x5 = (0 : Int32) then
        k4 b2 (b3 + 1) w4
      else
        (gR 3 w4 a0 4).bind fun r20 =>
        (gA w4 r20 b3).bind fun x21 =>
        if x21 < (5 : Int32) then
          k4 b2 (b3 + 1) w4
        else
          if (0 : Int32) ≤ b2 then
            k4 b2 (b3 + 1) w4
          else
            k4 b3 (b3 + 1) w4)
theorem t_X4_speaks_4 (a0 : Nat) (a1 : Int32) (k4 : Int32 → Int32 → aW → Option (Unit × aW)) (hk4 : ∀ (b2 : Int32) (b3 : Int32) (w : aW), Ev rvV M_X4_speaks 4 [some (.ref a0), some (.int a1), some (.int b2), some (.int b3), none] [] w (k4 b2 b3 w)) (b2 : Int32) (b3 : Int32) (w : aW) : Ev rvV M_X4_speaks 4 [some (.ref a0), some (.int a1), some (.int b2), some (.int b3), none] [] w (c_X4_speaks_4 a0 a1 k4 b2 b3 w) := by
  unfold c_X4_speaks_4
  refine e_iload_n (pc := 4) dX4_speaks_4 rfl rfl ?_
  refine e_aload_n (pc := 5) dX4_speaks_5 rfl rfl ?_
  refine e_getI (pc := 6) dX4_speaks_6 hs_X4_92 (fun x1 => ?_)
  refine e_icmp_ge (pc := 9) (tgt := 136) dX4_speaks_9 (by decide) (fun _ => ?_) (fun _ => ?_)
  · refine e_iload_n (pc := 136) dX4_speaks_136 rfl rfl ?_
    refine e_if_lt (pc := 137) (tgt := 147) dX4_speaks_137 (by decide) (fun _ => ?_) (fun _ => ?_)
    · exact e_vret (pc := 147) dX4_speaks_147 rfl
    · refine e_aload_n (pc := 140) dX4_speaks_140 rfl rfl ?_
      refine e_getR (pc := 141) dX4_speaks_141 hs_X4_22 (fun r2 => ?_)
      refine e_iload_n (pc := 144) dX4_speaks_144 rfl rfl ?_
      refine e_iload_n (pc := 145) dX4_speaks_145 rfl rfl ?_
      refine e_iast (pc := 146) dX4_speaks_146 (fun w3 => ?_)
      exact e_vret (pc := 147) dX4_speaks_147 rfl
  · refine e_aload_n (pc := 12) dX4_speaks_12 rfl rfl ?_
    refine e_iload_n (pc := 13) dX4_speaks_13 rfl rfl ?_
    refine e_iload_n (pc := 14) dX4_speaks_14 rfl rfl ?_
    refine e_callV (pc := 15) (av := [.int a1, .int b3]) (S := []) (c0 := 3) rfl rfl ok_X4_isMet ⟨Nat.le_of_ble_eq_true rfl, Nat.le_of_ble_eq_true rfl⟩ hv_X4_130 dX4_speaks_15 (s_X4_isMet a0 a1 b3 w) rfl rfl (Nat.le_of_ble_eq_true rfl) (fun x5 w4 => ?_)
    refine e_istore (L' := [some (.ref a0), some (.int a1), some (.int b2), some (.int b3), some (.int x5)]) (pc := 18) dX4_speaks_18 (by decide) rfl ?_
    refine e_aload_n (pc := 20) dX4_speaks_20 rfl rfl ?_
    refine e_getR (pc := 21) dX4_speaks_21 hs_X4_31 (fun r6 => ?_)
    refine e_iload_n (pc := 24) dX4_speaks_24 rfl rfl ?_
    refine e_iald (pc := 25) dX4_speaks_25 (fun x7 => ?_)
    refine e_iconst (pc := 26) dX4_speaks_26 kc_1 ?_
    refine e_icmp_ne (pc := 27) (tgt := 58) dX4_speaks_27 (by decide) (fun _ => ?_) (fun _ => ?_)
    · refine e_aload_n (pc := 58) dX4_speaks_58 rfl rfl ?_
      refine e_getR (pc := 59) dX4_speaks_59 hs_X4_31 (fun r8 => ?_)
      refine e_iload_n (pc := 62) dX4_speaks_62 rfl rfl ?_
      refine e_iald (pc := 63) dX4_speaks_63 (fun x9 => ?_)
      refine e_iconst (pc := 64) dX4_speaks_64 kc_2 ?_
      refine e_icmp_ne (pc := 65) (tgt := 108) dX4_speaks_65 (by decide) (fun _ => ?_) (fun _ => ?_)
      · refine e_aload_n (pc := 108) dX4_speaks_108 rfl rfl ?_
        refine e_getR (pc := 109) dX4_speaks_109 hs_X4_31 (fun r10 => ?_)
        refine e_iload_n (pc := 112) dX4_speaks_112 rfl rfl ?_
        refine e_iald (pc := 113) dX4_speaks_113 (fun x11 => ?_)
        refine e_iconst (pc := 114) dX4_speaks_114 kc_3 ?_
        refine e_icmp_ne (pc := 115) (tgt := 130) dX4_speaks_115 (by decide) (fun _ => ?_) (fun _ => ?_)
        · refine e_iinc (L' := [some (.ref a0), some (.int a1), some (.int b2), some (.int (b3 + 1)), some (.int x5)]) (pc := 130) (v := 1) dX4_speaks_130 (by decide) rfl kc_1 rfl ?_
          refine e_goto (pc := 133) (tgt := 4) dX4_speaks_133 (by decide) ?_
          refine e_forget (L2 := [some (.ref a0), some (.int a1), some (.int b2), some (.int (b3 + 1)), none]) (And.intro rfl (And.intro rfl (And.intro rfl (And.intro rfl trivial)))) ?_
          exact hk4 b2 (b3 + 1) w4
        · refine e_iload (pc := 118) dX4_speaks_118 rfl ?_
          refine e_if_eq (pc := 120) (tgt := 130) dX4_speaks_120 (by decide) (fun _ => ?_) (fun _ => ?_)
          · refine e_iinc (L' := [some (.ref a0), some (.int a1), some (.int b2), some (.int (b3 + 1)), some (.int x5)]) (pc := 130) (v := 1) dX4_speaks_130 (by decide) rfl kc_1 rfl ?_
            refine e_goto (pc := 133) (tgt := 4) dX4_speaks_133 (by decide) ?_
            refine e_forget (L2 := [some (.ref a0), some (.int a1), some (.int b2), some (.int (b3 + 1)), none]) (And.intro rfl (And.intro rfl (And.intro rfl (And.intro rfl trivial)))) ?_
            exact hk4 b2 (b3 + 1) w4
          · refine e_aload_n (pc := 123) dX4_speaks_123 rfl rfl ?_
            refine e_getR (pc := 124) dX4_speaks_124 hs_X4_22 (fun r12 => ?_)
            refine e_iload_n (pc := 127) dX4_speaks_127 rfl rfl ?_
            refine e_iload_n (pc := 128) dX4_speaks_128 rfl rfl ?_
            refine e_iast (pc := 129) dX4_speaks_129 (fun w13 => ?_)
            refine e_iinc (L' := [some (.ref a0), some (.int a1), some (.int b2), some (.int (b3 + 1)), some (.int x5)]) (pc := 130) (v := 1) dX4_speaks_130 (by decide) rfl kc_1 rfl ?_
            refine e_goto (pc := 133) (tgt := 4) dX4_speaks_133 (by decide) ?_
            refine e_forget (L2 := [some (.ref a0), some (.int a1), some (.int b2), some (.int (b3 + 1)), none]) (And.intro rfl (And.intro rfl (And.intro rfl (And.intro rfl trivial)))) ?_
            exact hk4 b2 (b3 + 1) w13
      · refine e_iload (pc := 68) dX4_speaks_68 rfl ?_
        refine e_if_eq (pc := 70) (tgt := 103) dX4_speaks_70 (by decide) (fun _ => ?_) (fun _ => ?_)
        · refine e_iload_n (pc := 103) dX4_speaks_103 rfl rfl ?_
          refine e_istore_n (L' := [some (.ref a0), some (.int a1), some (.int b2), some (.int b3), some (.int x5)]) (pc := 104) dX4_speaks_104 rfl (by decide) rfl ?_
          refine e_goto (pc := 105) (tgt := 130) dX4_speaks_105 (by decide) ?_
          refine e_iinc (L' := [some (.ref a0), some (.int a1), some (.int b2), some (.int (b3 + 1)), some (.int x5)]) (pc := 130) (v := 1) dX4_speaks_130 (by decide) rfl kc_1 rfl ?_
          refine e_goto (pc := 133) (tgt := 4) dX4_speaks_133 (by decide) ?_
          refine e_forget (L2 := [some (.ref a0), some (.int a1), some (.int b2), some (.int (b3 + 1)), none]) (And.intro rfl (And.intro rfl (And.intro rfl (And.intro rfl trivial)))) ?_
          exact hk4 b2 (b3 + 1) w4
        · refine e_aload_n (pc := 73) dX4_speaks_73 rfl rfl ?_
          refine e_iload_n (pc := 74) dX4_speaks_74 rfl rfl ?_
          refine e_callV (pc := 75) (av := [.int b3]) (S := []) (c0 := 3) rfl rfl ok_X4_workOf ⟨Nat.le_of_ble_eq_true rfl, Nat.le_of_ble_eq_true rfl⟩ hv_X4_121 dX4_speaks_75 (s_X4_workOf a0 b3 w4) rfl rfl (Nat.le_of_ble_eq_true rfl) (fun x15 w14 => ?_)
          refine e_iconst (pc := 78) dX4_speaks_78 kc_4 ?_
          refine e_icmp_lt (pc := 79) (tgt := 103) dX4_speaks_79 (by decide) (fun _ => ?_) (fun _ => ?_)
          · refine e_iload_n (pc := 103) dX4_speaks_103 rfl rfl ?_
            refine e_istore_n (L' := [some (.ref a0), some (.int a1), some (.int b2), some (.int b3), some (.int x5)]) (pc := 104) dX4_speaks_104 rfl (by decide) rfl ?_
            refine e_goto (pc := 105) (tgt := 130) dX4_speaks_105 (by decide) ?_
            refine e_iinc (L' := [some (.ref a0), some (.int a1), some (.int b2), some (.int (b3 + 1)), some (.int x5)]) (pc := 130) (v := 1) dX4_speaks_130 (by decide) rfl kc_1 rfl ?_
            refine e_goto (pc := 133) (tgt := 4) dX4_speaks_133 (by decide) ?_
            refine e_forget (L2 := [some (.ref a0), some (.int a1), some (.int b2), some (.int (b3 + 1)), none]) (And.intro rfl (And.intro rfl (And.intro rfl (And.intro rfl trivial)))) ?_
            exact hk4 b2 (b3 + 1) w14
          · refine e_iload_n (pc := 82) dX4_speaks_82 rfl rfl ?_
            refine e_if_lt (pc := 83) (tgt := 99) dX4_speaks_83 (by decide) (fun _ => ?_) (fun _ => ?_)
            · refine e_iload_n (pc := 99) dX4_speaks_99 rfl rfl ?_
              refine e_goto (pc := 100) (tgt := 104) dX4_speaks_100 (by decide) ?_
              refine e_istore_n (L' := [some (.ref a0), some (.int a1), some (.int b3), some (.int b3), some (.int x5)]) (pc := 104) dX4_speaks_104 rfl (by decide) rfl ?_
              refine e_goto (pc := 105) (tgt := 130) dX4_speaks_105 (by decide) ?_
              refine e_iinc (L' := [some (.ref a0), some (.int a1), some (.int b3), some (.int (b3 + 1)), some (.int x5)]) (pc := 130) (v := 1) dX4_speaks_130 (by decide) rfl kc_1 rfl ?_
              refine e_goto (pc := 133) (tgt := 4) dX4_speaks_133 (by decide) ?_
              refine e_forget (L2 := [some (.ref a0), some (.int a1), some (.int b3), some (.int (b3 + 1)), none]) (And.intro rfl (And.intro rfl (And.intro rfl (And.intro rfl trivial)))) ?_
              exact hk4 b3 (b3 + 1) w14
            · refine e_aload_n (pc := 86) dX4_speaks_86 rfl rfl ?_
              refine e_iload_n (pc := 87) dX4_speaks_87 rfl rfl ?_
              refine e_callV (pc := 88) (av := [.int b3]) (S := []) (c0 := 3) rfl rfl ok_X4_workOf ⟨Nat.le_of_ble_eq_true rfl, Nat.le_of_ble_eq_true rfl⟩ hv_X4_121 dX4_speaks_88 (s_X4_workOf a0 b3 w14) rfl rfl (Nat.le_of_ble_eq_true rfl) (fun x17 w16 => ?_)
              refine e_aload_n (pc := 91) dX4_speaks_91 rfl rfl ?_
              refine e_iload_n (pc := 92) dX4_speaks_92 rfl rfl ?_
              refine e_callV (pc := 93) (av := [.int b2]) (S := [.int x17]) (c0 := 3) rfl rfl ok_X4_workOf ⟨Nat.le_of_ble_eq_true rfl, Nat.le_of_ble_eq_true rfl⟩ hv_X4_121 dX4_speaks_93 (s_X4_workOf a0 b2 w16) rfl rfl (Nat.le_of_ble_eq_true rfl) (fun x19 w18 => ?_)
              refine e_icmp_le (pc := 96) (tgt := 103) dX4_speaks_96 (by decide) (fun _ => ?_) (fun _ => ?_)
              · refine e_iload_n (pc := 103) dX4_speaks_103 rfl rfl ?_
                refine e_istore_n (L' := [some (.ref a0), some (.int a1), some (.int b2), some (.int b3), some (.int x5)]) (pc := 104) dX4_speaks_104 rfl (by decide) rfl ?_
                refine e_goto (pc := 105) (tgt := 130) dX4_speaks_105 (by decide) ?_
                refine e_iinc (L' := [some (.ref a0), some (.int a1), some (.int b2), some (.int (b3 + 1)), some (.int x5)]) (pc := 130) (v := 1) dX4_speaks_130 (by decide) rfl kc_1 rfl ?_
                refine e_goto (pc := 133) (tgt := 4) dX4_speaks_133 (by decide) ?_
                refine e_forget (L2 := [some (.ref a0), some (.int a1), some (.int b2), some (.int (b3 + 1)), none]) (And.intro rfl (And.intro rfl (And.intro rfl (And.intro rfl trivial)))) ?_
                exact hk4 b2 (b3 + 1) w18
              · refine e_iload_n (pc := 99) dX4_speaks_99 rfl rfl ?_
                refine e_goto (pc := 100) (tgt := 104) dX4_speaks_100 (by decide) ?_
                refine e_istore_n (L' := [some (.ref a0), some (.int a1), some (.int b3), some (.int b3), some (.int x5)]) (pc := 104) dX4_speaks_104 rfl (by decide) rfl ?_
                refine e_goto (pc := 105) (tgt := 130) dX4_speaks_105 (by decide) ?_
                refine e_iinc (L' := [some (.ref a0), some (.int a1), some (.int b3), some (.int (b3 + 1)), some (.int x5)]) (pc := 130) (v := 1) dX4_speaks_130 (by decide) rfl kc_1 rfl ?_
                refine e_goto (pc := 133) (tgt := 4) dX4_speaks_133 (by decide) ?_
                refine e_forget (L2 := [some (.ref a0), some (.int a1), some (.int b3), some (.int (b3 + 1)), none]) (And.intro rfl (And.intro rfl (And.intro rfl (And.intro rfl trivial)))) ?_
                exact hk4 b3 (b3 + 1) w18
    · refine e_iload (pc := 30) dX4_speaks_30 rfl ?_
      refine e_if_eq (pc := 32) (tgt := 53) dX4_speaks_32 (by decide) (fun _ => ?_) (fun _ => ?_)
      · refine e_iload_n (pc := 53) dX4_speaks_53 rfl rfl ?_
        refine e_istore_n (L' := [some (.ref a0), some (.int a1), some (.int b2), some (.int b3), some (.int x5)]) (pc := 54) dX4_speaks_54 rfl (by decide) rfl ?_
        refine e_goto (pc := 55) (tgt := 130) dX4_speaks_55 (by decide) ?_
        refine e_iinc (L' := [some (.ref a0), some (.int a1), some (.int b2), some (.int (b3 + 1)), some (.int x5)]) (pc := 130) (v := 1) dX4_speaks_130 (by decide) rfl kc_1 rfl ?_
        refine e_goto (pc := 133) (tgt := 4) dX4_speaks_133 (by decide) ?_
        refine e_forget (L2 := [some (.ref a0), some (.int a1), some (.int b2), some (.int (b3 + 1)), none]) (And.intro rfl (And.intro rfl (And.intro rfl (And.intro rfl trivial)))) ?_
        exact hk4 b2 (b3 + 1) w4
      · refine e_aload_n (pc := 35) dX4_speaks_35 rfl rfl ?_
        refine e_getR (pc := 36) dX4_speaks_36 hs_X4_19 (fun r20 => ?_)
        refine e_iload_n (pc := 39) dX4_speaks_39 rfl rfl ?_
        refine e_iald (pc := 40) dX4_speaks_40 (fun x21 => ?_)
        refine e_iconst (pc := 41) dX4_speaks_41 kc_5 ?_
        refine e_icmp_lt (pc := 42) (tgt := 53) dX4_speaks_42 (by decide) (fun _ => ?_) (fun _ => ?_)
        · refine e_iload_n (pc := 53) dX4_speaks_53 rfl rfl ?_
          refine e_istore_n (L' := [some (.ref a0), some (.int a1), some (.int b2), some (.int b3), some (.int x5)]) (pc := 54) dX4_speaks_54 rfl (by decide) rfl ?_
          refine e_goto (pc := 55) (tgt := 130) dX4_speaks_55 (by decide) ?_
          refine e_iinc (L' := [some (.ref a0), some (.int a1), some (.int b2), some (.int (b3 + 1)), some (.int x5)]) (pc := 130) (v := 1) dX4_speaks_130 (by decide) rfl kc_1 rfl ?_
          refine e_goto (pc := 133) (tgt := 4) dX4_speaks_133 (by decide) ?_
          refine e_forget (L2 := [some (.ref a0), some (.int a1), some (.int b2), some (.int (b3 + 1)), none]) (And.intro rfl (And.intro rfl (And.intro rfl (And.intro rfl trivial)))) ?_
          exact hk4 b2 (b3 + 1) w4
        · refine e_iload_n (pc := 45) dX4_speaks_45 rfl rfl ?_
          refine e_if_ge (pc := 46) (tgt := 53) dX4_speaks_46 (by decide) (fun _ => ?_) (fun _ => ?_)
          · refine e_iload_n (pc := 53) dX4_speaks_53 rfl rfl ?_
            refine e_istore_n (L' := [some (.ref a0), some (.int a1), some (.int b2), some (.int b3), some (.int x5)]) (pc := 54) dX4_speaks_54 rfl (by decide) rfl ?_
            refine e_goto (pc := 55) (tgt := 130) dX4_speaks_55 (by decide) ?_
            refine e_iinc (L' := [some (.ref a0), some (.int a1), some (.int b2), some (.int (b3 + 1)), some (.int x5)]) (pc := 130) (v := 1) dX4_speaks_130 (by decide) rfl kc_1 rfl ?_
            refine e_goto (pc := 133) (tgt := 4) dX4_speaks_133 (by decide) ?_
            refine e_forget (L2 := [some (.ref a0), some (.int a1), some (.int b2), some (.int (b3 + 1)), none]) (And.intro rfl (And.intro rfl (And.intro rfl (And.intro rfl trivial)))) ?_
            exact hk4 b2 (b3 + 1) w4
          · refine e_iload_n (pc := 49) dX4_speaks_49 rfl rfl ?_
            refine e_goto (pc := 50) (tgt := 54) dX4_speaks_50 (by decide) ?_
            refine e_istore_n (L' := [some (.ref a0), some (.int a1), some (.int b3), some (.int b3), some (.int x5)]) (pc := 54) dX4_speaks_54 rfl (by decide) rfl ?_
            refine e_goto (pc := 55) (tgt := 130) dX4_speaks_55 (by decide) ?_
            refine e_iinc (L' := [some (.ref a0), some (.int a1), some (.int b3), some (.int (b3 + 1)), some (.int x5)]) (pc := 130) (v := 1) dX4_speaks_130 (by decide) rfl kc_1 rfl ?_
            refine e_goto (pc := 133) (tgt := 4) dX4_speaks_133 (by decide) ?_
            refine e_forget (L2 := [some (.ref a0), some (.int a1), some (.int b3), some (.int (b3 + 1)), none]) (And.intro rfl (And.intro rfl (And.intro rfl (And.intro rfl trivial)))) ?_
            exact hk4 b3 (b3 + 1) w4
def f_X4_speaks (a0 : Nat) (a1 : Int32) (w : aW) : Option (Unit × aW) :=
  loop3 (c_X4_speaks_4 a0 a1) a_fuel (-1 : Int32) (0 : Int32) w
theorem s_X4_speaks (a0 : Nat) (a1 : Int32) (w : aW) : Sp rvV M_X4_speaks [.ref a0, .int a1] w (f_X4_speaks a0 a1 w) := by
  refine e_entry [some (.ref a0), some (.int a1), none, none, none] (by decide +kernel) (Nat.le_of_ble_eq_true rfl) (fun _ => rfl) ?_
  unfold f_X4_speaks
  refine e_iconst (pc := 0) dX4_speaks_0 kc_m1 ?_
  refine e_istore_n (L' := [some (.ref a0), some (.int a1), some (.int (-1 : Int32)), none, none]) (pc := 1) dX4_speaks_1 rfl (by decide) rfl ?_
  refine e_iconst (pc := 2) dX4_speaks_2 kc_0 ?_
  refine e_istore_n (L' := [some (.ref a0), some (.int a1), some (.int (-1 : Int32)), some (.int (0 : Int32)), none]) (pc := 3) dX4_speaks_3 rfl (by decide) rfl ?_
  exact e_loop3 (L := fun b2 b3 => [some (.ref a0), some (.int a1), some (.int b2), some (.int b3), none]) (S := fun b2 b3 => []) (fun kf hkf => t_X4_speaks_4 a0 a1  kf hkf) _ (-1 : Int32) (0 : Int32) w
def M_X4_isFed : aM := (yX4_isFed, cX4_isFed, 3, none, 1, 22)
theorem ok_X4_isFed : a_okM M_X4_isFed 1 := ⟨⟨by decide +kernel, by decide +kernel⟩, by decide +kernel, a_in 1117 (by decide +kernel) rfl, a_in 79 (by decide +kernel) rfl⟩
theorem dX4_isFed_0 : decode M_X4_isFed.2.1 0 = .ok (.aload_n 0, 1) := by decide +kernel
theorem dX4_isFed_1 : decode M_X4_isFed.2.1 1 = .ok (.getfield 22, 3) := by decide +kernel
theorem dX4_isFed_4 : decode M_X4_isFed.2.1 4 = .ok (.iload_n 1, 1) := by decide +kernel
theorem dX4_isFed_5 : decode M_X4_isFed.2.1 5 = .ok (.iaload, 1) := by decide +kernel
theorem dX4_isFed_6 : decode M_X4_isFed.2.1 6 = .ok (.istore_n 2, 1) := by decide +kernel
theorem dX4_isFed_7 : decode M_X4_isFed.2.1 7 = .ok (.iload_n 2, 1) := by decide +kernel
theorem dX4_isFed_8 : decode M_X4_isFed.2.1 8 = .ok (.ifCond .ge 25, 3) := by decide +kernel
theorem dX4_isFed_11 : decode M_X4_isFed.2.1 11 = .ok (.aload_n 0, 1) := by decide +kernel
theorem dX4_isFed_12 : decode M_X4_isFed.2.1 12 = .ok (.getfield 19, 3) := by decide +kernel
theorem dX4_isFed_15 : decode M_X4_isFed.2.1 15 = .ok (.iload_n 1, 1) := by decide +kernel
theorem dX4_isFed_16 : decode M_X4_isFed.2.1 16 = .ok (.aload_n 0, 1) := by decide +kernel
theorem dX4_isFed_17 : decode M_X4_isFed.2.1 17 = .ok (.getfield 19, 3) := by decide +kernel
theorem dX4_isFed_20 : decode M_X4_isFed.2.1 20 = .ok (.iload_n 1, 1) := by decide +kernel
theorem dX4_isFed_21 : decode M_X4_isFed.2.1 21 = .ok (.iaload, 1) := by decide +kernel
theorem dX4_isFed_22 : decode M_X4_isFed.2.1 22 = .ok (.iconst 1, 1) := by decide +kernel
theorem dX4_isFed_23 : decode M_X4_isFed.2.1 23 = .ok (.iadd, 1) := by decide +kernel
theorem dX4_isFed_24 : decode M_X4_isFed.2.1 24 = .ok (.bipush 9, 2) := by decide +kernel
theorem dX4_isFed_26 : decode M_X4_isFed.2.1 26 = .ok (.invokestatic 133, 3) := by decide +kernel
theorem dX4_isFed_29 : decode M_X4_isFed.2.1 29 = .ok (.iastore, 1) := by decide +kernel
theorem dX4_isFed_30 : decode M_X4_isFed.2.1 30 = .ok (.goto 138, 3) := by decide +kernel
theorem dX4_isFed_33 : decode M_X4_isFed.2.1 33 = .ok (.aload_n 0, 1) := by decide +kernel
theorem dX4_isFed_34 : decode M_X4_isFed.2.1 34 = .ok (.getfield 25, 3) := by decide +kernel
theorem dX4_isFed_37 : decode M_X4_isFed.2.1 37 = .ok (.iload_n 2, 1) := by decide +kernel
theorem dX4_isFed_38 : decode M_X4_isFed.2.1 38 = .ok (.iaload, 1) := by decide +kernel
theorem dX4_isFed_39 : decode M_X4_isFed.2.1 39 = .ok (.aload_n 0, 1) := by decide +kernel
theorem dX4_isFed_40 : decode M_X4_isFed.2.1 40 = .ok (.iload_n 1, 1) := by decide +kernel
theorem dX4_isFed_41 : decode M_X4_isFed.2.1 41 = .ok (.invokevirtual 118, 3) := by decide +kernel
theorem dX4_isFed_44 : decode M_X4_isFed.2.1 44 = .ok (.aload_n 0, 1) := by decide +kernel
theorem dX4_isFed_45 : decode M_X4_isFed.2.1 45 = .ok (.getfield 136, 3) := by decide +kernel
theorem dX4_isFed_48 : decode M_X4_isFed.2.1 48 = .ok (.iadd, 1) := by decide +kernel
theorem dX4_isFed_49 : decode M_X4_isFed.2.1 49 = .ok (.if_icmp .lt 48, 3) := by decide +kernel
theorem dX4_isFed_52 : decode M_X4_isFed.2.1 52 = .ok (.aload_n 0, 1) := by decide +kernel
theorem dX4_isFed_53 : decode M_X4_isFed.2.1 53 = .ok (.getfield 25, 3) := by decide +kernel
theorem dX4_isFed_56 : decode M_X4_isFed.2.1 56 = .ok (.iload_n 2, 1) := by decide +kernel
theorem dX4_isFed_57 : decode M_X4_isFed.2.1 57 = .ok (.aload_n 0, 1) := by decide +kernel
theorem dX4_isFed_58 : decode M_X4_isFed.2.1 58 = .ok (.getfield 25, 3) := by decide +kernel
theorem dX4_isFed_61 : decode M_X4_isFed.2.1 61 = .ok (.iload_n 2, 1) := by decide +kernel
theorem dX4_isFed_62 : decode M_X4_isFed.2.1 62 = .ok (.iaload, 1) := by decide +kernel
theorem dX4_isFed_63 : decode M_X4_isFed.2.1 63 = .ok (.aload_n 0, 1) := by decide +kernel
theorem dX4_isFed_64 : decode M_X4_isFed.2.1 64 = .ok (.iload_n 1, 1) := by decide +kernel
theorem dX4_isFed_65 : decode M_X4_isFed.2.1 65 = .ok (.invokevirtual 118, 3) := by decide +kernel
theorem dX4_isFed_68 : decode M_X4_isFed.2.1 68 = .ok (.isub, 1) := by decide +kernel
theorem dX4_isFed_69 : decode M_X4_isFed.2.1 69 = .ok (.aload_n 0, 1) := by decide +kernel
theorem dX4_isFed_70 : decode M_X4_isFed.2.1 70 = .ok (.getfield 136, 3) := by decide +kernel
theorem dX4_isFed_73 : decode M_X4_isFed.2.1 73 = .ok (.isub, 1) := by decide +kernel
theorem dX4_isFed_74 : decode M_X4_isFed.2.1 74 = .ok (.aload_n 0, 1) := by decide +kernel
theorem dX4_isFed_75 : decode M_X4_isFed.2.1 75 = .ok (.iload_n 1, 1) := by decide +kernel
theorem dX4_isFed_76 : decode M_X4_isFed.2.1 76 = .ok (.invokevirtual 121, 3) := by decide +kernel
theorem dX4_isFed_79 : decode M_X4_isFed.2.1 79 = .ok (.iadd, 1) := by decide +kernel
theorem dX4_isFed_80 : decode M_X4_isFed.2.1 80 = .ok (.sipush 999, 3) := by decide +kernel
theorem dX4_isFed_83 : decode M_X4_isFed.2.1 83 = .ok (.invokestatic 133, 3) := by decide +kernel
theorem dX4_isFed_86 : decode M_X4_isFed.2.1 86 = .ok (.iastore, 1) := by decide +kernel
theorem dX4_isFed_87 : decode M_X4_isFed.2.1 87 = .ok (.aload_n 0, 1) := by decide +kernel
theorem dX4_isFed_88 : decode M_X4_isFed.2.1 88 = .ok (.getfield 19, 3) := by decide +kernel
theorem dX4_isFed_91 : decode M_X4_isFed.2.1 91 = .ok (.iload_n 1, 1) := by decide +kernel
theorem dX4_isFed_92 : decode M_X4_isFed.2.1 92 = .ok (.iconst 0, 1) := by decide +kernel
theorem dX4_isFed_93 : decode M_X4_isFed.2.1 93 = .ok (.iastore, 1) := by decide +kernel
theorem dX4_isFed_94 : decode M_X4_isFed.2.1 94 = .ok (.goto 74, 3) := by decide +kernel
theorem dX4_isFed_97 : decode M_X4_isFed.2.1 97 = .ok (.aload_n 0, 1) := by decide +kernel
theorem dX4_isFed_98 : decode M_X4_isFed.2.1 98 = .ok (.getfield 19, 3) := by decide +kernel
theorem dX4_isFed_101 : decode M_X4_isFed.2.1 101 = .ok (.iload_n 1, 1) := by decide +kernel
theorem dX4_isFed_102 : decode M_X4_isFed.2.1 102 = .ok (.aload_n 0, 1) := by decide +kernel
theorem dX4_isFed_103 : decode M_X4_isFed.2.1 103 = .ok (.getfield 19, 3) := by decide +kernel
theorem dX4_isFed_106 : decode M_X4_isFed.2.1 106 = .ok (.iload_n 1, 1) := by decide +kernel
theorem dX4_isFed_107 : decode M_X4_isFed.2.1 107 = .ok (.iaload, 1) := by decide +kernel
theorem dX4_isFed_108 : decode M_X4_isFed.2.1 108 = .ok (.iconst 2, 1) := by decide +kernel
theorem dX4_isFed_109 : decode M_X4_isFed.2.1 109 = .ok (.iadd, 1) := by decide +kernel
theorem dX4_isFed_110 : decode M_X4_isFed.2.1 110 = .ok (.bipush 9, 2) := by decide +kernel
theorem dX4_isFed_112 : decode M_X4_isFed.2.1 112 = .ok (.invokestatic 133, 3) := by decide +kernel
theorem dX4_isFed_115 : decode M_X4_isFed.2.1 115 = .ok (.iastore, 1) := by decide +kernel
theorem dX4_isFed_116 : decode M_X4_isFed.2.1 116 = .ok (.aload_n 0, 1) := by decide +kernel
theorem dX4_isFed_117 : decode M_X4_isFed.2.1 117 = .ok (.getfield 19, 3) := by decide +kernel
theorem dX4_isFed_120 : decode M_X4_isFed.2.1 120 = .ok (.iload_n 1, 1) := by decide +kernel
theorem dX4_isFed_121 : decode M_X4_isFed.2.1 121 = .ok (.iaload, 1) := by decide +kernel
theorem dX4_isFed_122 : decode M_X4_isFed.2.1 122 = .ok (.bipush 9, 2) := by decide +kernel
theorem dX4_isFed_124 : decode M_X4_isFed.2.1 124 = .ok (.if_icmp .ne 44, 3) := by decide +kernel
theorem dX4_isFed_127 : decode M_X4_isFed.2.1 127 = .ok (.aload_n 0, 1) := by decide +kernel
theorem dX4_isFed_128 : decode M_X4_isFed.2.1 128 = .ok (.dup, 1) := by decide +kernel
theorem dX4_isFed_129 : decode M_X4_isFed.2.1 129 = .ok (.getfield 107, 3) := by decide +kernel
theorem dX4_isFed_132 : decode M_X4_isFed.2.1 132 = .ok (.iconst 1, 1) := by decide +kernel
theorem dX4_isFed_133 : decode M_X4_isFed.2.1 133 = .ok (.iload_n 1, 1) := by decide +kernel
theorem dX4_isFed_134 : decode M_X4_isFed.2.1 134 = .ok (.ishl, 1) := by decide +kernel
theorem dX4_isFed_135 : decode M_X4_isFed.2.1 135 = .ok (.iconst (-1), 1) := by decide +kernel
theorem dX4_isFed_136 : decode M_X4_isFed.2.1 136 = .ok (.ixor, 1) := by decide +kernel
theorem dX4_isFed_137 : decode M_X4_isFed.2.1 137 = .ok (.iand, 1) := by decide +kernel
theorem dX4_isFed_138 : decode M_X4_isFed.2.1 138 = .ok (.putfield 107, 3) := by decide +kernel
theorem dX4_isFed_141 : decode M_X4_isFed.2.1 141 = .ok (.aload_n 0, 1) := by decide +kernel
theorem dX4_isFed_142 : decode M_X4_isFed.2.1 142 = .ok (.getfield 22, 3) := by decide +kernel
theorem dX4_isFed_145 : decode M_X4_isFed.2.1 145 = .ok (.iload_n 1, 1) := by decide +kernel
theorem dX4_isFed_146 : decode M_X4_isFed.2.1 146 = .ok (.bipush (-4), 2) := by decide +kernel
theorem dX4_isFed_148 : decode M_X4_isFed.2.1 148 = .ok (.iastore, 1) := by decide +kernel
theorem dX4_isFed_149 : decode M_X4_isFed.2.1 149 = .ok (.aload_n 0, 1) := by decide +kernel
theorem dX4_isFed_150 : decode M_X4_isFed.2.1 150 = .ok (.getfield 34, 3) := by decide +kernel
theorem dX4_isFed_153 : decode M_X4_isFed.2.1 153 = .ok (.iload_n 2, 1) := by decide +kernel
theorem dX4_isFed_154 : decode M_X4_isFed.2.1 154 = .ok (.aload_n 0, 1) := by decide +kernel
theorem dX4_isFed_155 : decode M_X4_isFed.2.1 155 = .ok (.getfield 34, 3) := by decide +kernel
theorem dX4_isFed_158 : decode M_X4_isFed.2.1 158 = .ok (.iload_n 2, 1) := by decide +kernel
theorem dX4_isFed_159 : decode M_X4_isFed.2.1 159 = .ok (.iaload, 1) := by decide +kernel
theorem dX4_isFed_160 : decode M_X4_isFed.2.1 160 = .ok (.iconst 1, 1) := by decide +kernel
theorem dX4_isFed_161 : decode M_X4_isFed.2.1 161 = .ok (.iadd, 1) := by decide +kernel
theorem dX4_isFed_162 : decode M_X4_isFed.2.1 162 = .ok (.bipush 99, 2) := by decide +kernel
theorem dX4_isFed_164 : decode M_X4_isFed.2.1 164 = .ok (.invokestatic 133, 3) := by decide +kernel
theorem dX4_isFed_167 : decode M_X4_isFed.2.1 167 = .ok (.iastore, 1) := by decide +kernel
theorem dX4_isFed_168 : decode M_X4_isFed.2.1 168 = .ok (.return_, 1) := by decide +kernel
theorem hs_X4_136 : a_fs RX4 136 3 12 := ⟨RX4, TX4, 37, rfl, tin_X4, by decide, a_in 877 (by decide +kernel) rfl⟩
theorem ht_X4_133 : a_okS RX4 M_X4_held 133 := ⟨a_in 1118 (by decide +kernel) rfl, a_in 1119 (by decide +kernel) rfl⟩
theorem hw_X4_107 : a_fw RX4 107 3 6 (.int) := ⟨RX4, TX4, 37, tyX4, rfl, tin_X4, by decide, a_in 871 (by decide +kernel) rfl, tyX4_ok, nmX4, rfl, by decide +kernel⟩
theorem hs_X4_34 : a_fs RX4 34 3 10 := ⟨RX4, TX4, 37, rfl, tin_X4, by decide, a_in 875 (by decide +kernel) rfl⟩
def f_X4_isFed (a0 : Nat) (a1 : Int32) (w : aW) : Option (Unit × aW) :=
  (gR 3 w a0 5).bind fun r1 =>
  (gA w r1 a1).bind fun x2 =>
  if (0 : Int32) ≤ x2 then
    (gR 3 w a0 7).bind fun r3 =>
    (gA w r3 x2).bind fun x4 =>
    cV 3 w a0 (bk (f_X4_needOf a0 a1 w) fun x6 w5 =>
    (gI 3 w5 a0 12).bind fun x7 =>
    if x4 < (x6 + x7) then
      (gR 3 w5 a0 4).bind fun r8 =>
      (gR 3 w5 a0 4).bind fun r9 =>
      (gA w5 r9 a1).bind fun x10 =>
      bk (f_X4_held (x10 + (2 : Int32)) (9 : Int32) w5) fun x12 w11 =>
      (sA w11 r8 a1 x12).bind fun w13 =>
      (gR 3 w13 a0 4).bind fun r14 =>
      (gA w13 r14 a1).bind fun x15 =>
      if ¬ x15 = (9 : Int32) then
        some ((), w13)
      else
        (gI 3 w13 a0 6).bind fun x16 =>
        (sF 3 w13 a0 6 (.int (x16 &&& (((1 : Int32) <<< (a1 &&& 31)) ^^^ (-1 : Int32))))).bind fun w17 =>
        (gR 3 w17 a0 5).bind fun r18 =>
        (sA w17 r18 a1 (-4 : Int32)).bind fun w19 =>
        (gR 3 w19 a0 10).bind fun r20 =>
        (gR 3 w19 a0 10).bind fun r21 =>
        (gA w19 r21 x2).bind fun x22 =>
        bk (f_X4_held (x22 + (1 : Int32)) (99 : Int32) w19) fun x24 w23 =>
        (sA w23 r20 x2 x24).bind fun w25 =>
        some ((), w25)
    else
      (gR 3 w5 a0 7).bind fun r26 =>
      (gR 3 w5 a0 7).bind fun r27 =>
      (gA w5 r27 x2).bind fun x28 =>
      cV 3 w5 a0 (bk (f_X4_needOf a0 a1 w5) fun x30 w29 =>
      (gI 3 w29 a0 12).bind fun x31 =>
      cV 3 w29 a0 (bk (f_X4_workOf a0 a1 w29) fun x33 w32 =>
      bk (f_X4_held (((x28 - x30) - x31) + x33) (999 : Int32) w32) fun x35 w34 =>
      (sA w34 r26 x2 x35).bind fun w36 =>
      (gR 3 w36 a0 4).bind fun r37 =>
      (sA w36 r37 a1 (0 : Int32)).bind fun w38 =>
      some ((), w38))))
  else
    (gR 3 w a0 4).bind fun r39 =>
    (gR 3 w a0 4).bind fun r40 =>
    (gA w r40 a1).bind fun x41 =>
    bk (f_X4_held (x41 + (1 : Int32)) (9 : Int32) w) fun x43 w42 =>
    (sA w42 r39 a1 x43).bind fun w44 =>
    some ((), w44)
theorem s_X4_isFed (a0 : Nat) (a1 : Int32) (w : aW) : Sp rvV M_X4_isFed [.ref a0, .int a1] w (f_X4_isFed a0 a1 w) := by
  refine e_entry [some (.ref a0), some (.int a1), none] (by decide +kernel) (Nat.le_of_ble_eq_true rfl) (fun _ => rfl) ?_
  unfold f_X4_isFed
  refine e_aload_n (pc := 0) dX4_isFed_0 rfl rfl ?_
  refine e_getR (pc := 1) dX4_isFed_1 hs_X4_22 (fun r1 => ?_)
  refine e_iload_n (pc := 4) dX4_isFed_4 rfl rfl ?_
  refine e_iald (pc := 5) dX4_isFed_5 (fun x2 => ?_)
  refine e_istore_n (L' := [some (.ref a0), some (.int a1), some (.int x2)]) (pc := 6) dX4_isFed_6 rfl (by decide) rfl ?_
  refine e_iload_n (pc := 7) dX4_isFed_7 rfl rfl ?_
  refine e_if_ge (pc := 8) (tgt := 33) dX4_isFed_8 (by decide) (fun _ => ?_) (fun _ => ?_)
  · refine e_aload_n (pc := 33) dX4_isFed_33 rfl rfl ?_
    refine e_getR (pc := 34) dX4_isFed_34 hs_X4_25 (fun r3 => ?_)
    refine e_iload_n (pc := 37) dX4_isFed_37 rfl rfl ?_
    refine e_iald (pc := 38) dX4_isFed_38 (fun x4 => ?_)
    refine e_aload_n (pc := 39) dX4_isFed_39 rfl rfl ?_
    refine e_iload_n (pc := 40) dX4_isFed_40 rfl rfl ?_
    refine e_callV (pc := 41) (av := [.int a1]) (S := [.int x4]) (c0 := 3) rfl rfl ok_X4_needOf ⟨Nat.le_of_ble_eq_true rfl, Nat.le_of_ble_eq_true rfl⟩ hv_X4_118 dX4_isFed_41 (s_X4_needOf a0 a1 w) rfl rfl (Nat.le_of_ble_eq_true rfl) (fun x6 w5 => ?_)
    refine e_aload_n (pc := 44) dX4_isFed_44 rfl rfl ?_
    refine e_getI (pc := 45) dX4_isFed_45 hs_X4_136 (fun x7 => ?_)
    refine e_iadd (pc := 48) dX4_isFed_48 ?_
    refine e_icmp_lt (pc := 49) (tgt := 97) dX4_isFed_49 (by decide) (fun _ => ?_) (fun _ => ?_)
    · refine e_aload_n (pc := 97) dX4_isFed_97 rfl rfl ?_
      refine e_getR (pc := 98) dX4_isFed_98 hs_X4_19 (fun r8 => ?_)
      refine e_iload_n (pc := 101) dX4_isFed_101 rfl rfl ?_
      refine e_aload_n (pc := 102) dX4_isFed_102 rfl rfl ?_
      refine e_getR (pc := 103) dX4_isFed_103 hs_X4_19 (fun r9 => ?_)
      refine e_iload_n (pc := 106) dX4_isFed_106 rfl rfl ?_
      refine e_iald (pc := 107) dX4_isFed_107 (fun x10 => ?_)
      refine e_iconst (pc := 108) dX4_isFed_108 kc_2 ?_
      refine e_iadd (pc := 109) dX4_isFed_109 ?_
      refine e_bipush (pc := 110) dX4_isFed_110 kb_9 ?_
      refine e_callS (pc := 112) (av := [.int (x10 + (2 : Int32)), .int (9 : Int32)]) (S := [.int a1, .ref r8]) ok_X4_held ⟨Nat.le_of_ble_eq_true rfl, Nat.le_of_ble_eq_true rfl⟩ ht_X4_133 dX4_isFed_112 (s_X4_held (x10 + (2 : Int32)) (9 : Int32) w5) rfl rfl (Nat.le_of_ble_eq_true rfl) (fun x12 w11 => ?_)
      refine e_iast (pc := 115) dX4_isFed_115 (fun w13 => ?_)
      refine e_aload_n (pc := 116) dX4_isFed_116 rfl rfl ?_
      refine e_getR (pc := 117) dX4_isFed_117 hs_X4_19 (fun r14 => ?_)
      refine e_iload_n (pc := 120) dX4_isFed_120 rfl rfl ?_
      refine e_iald (pc := 121) dX4_isFed_121 (fun x15 => ?_)
      refine e_bipush (pc := 122) dX4_isFed_122 kb_9 ?_
      refine e_icmp_ne (pc := 124) (tgt := 168) dX4_isFed_124 (by decide) (fun _ => ?_) (fun _ => ?_)
      · exact e_vret (pc := 168) dX4_isFed_168 rfl
      · refine e_aload_n (pc := 127) dX4_isFed_127 rfl rfl ?_
        refine e_dup (pc := 128) dX4_isFed_128 rfl ?_
        refine e_getI (pc := 129) dX4_isFed_129 hs_X4_107 (fun x16 => ?_)
        refine e_iconst (pc := 132) dX4_isFed_132 kc_1 ?_
        refine e_iload_n (pc := 133) dX4_isFed_133 rfl rfl ?_
        refine e_ishl (pc := 134) dX4_isFed_134 ?_
        refine e_iconst (pc := 135) dX4_isFed_135 kc_m1 ?_
        refine e_ixor (pc := 136) dX4_isFed_136 ?_
        refine e_iand (pc := 137) dX4_isFed_137 ?_
        refine e_put (pc := 138) dX4_isFed_138 hw_X4_107 (fun _ => rfl) (fun _ => rfl) (fun w17 => ?_)
        refine e_aload_n (pc := 141) dX4_isFed_141 rfl rfl ?_
        refine e_getR (pc := 142) dX4_isFed_142 hs_X4_22 (fun r18 => ?_)
        refine e_iload_n (pc := 145) dX4_isFed_145 rfl rfl ?_
        refine e_bipush (pc := 146) dX4_isFed_146 kb_m4 ?_
        refine e_iast (pc := 148) dX4_isFed_148 (fun w19 => ?_)
        refine e_aload_n (pc := 149) dX4_isFed_149 rfl rfl ?_
        refine e_getR (pc := 150) dX4_isFed_150 hs_X4_34 (fun r20 => ?_)
        refine e_iload_n (pc := 153) dX4_isFed_153 rfl rfl ?_
        refine e_aload_n (pc := 154) dX4_isFed_154 rfl rfl ?_
        refine e_getR (pc := 155) dX4_isFed_155 hs_X4_34 (fun r21 => ?_)
        refine e_iload_n (pc := 158) dX4_isFed_158 rfl rfl ?_
        refine e_iald (pc := 159) dX4_isFed_159 (fun x22 => ?_)
        refine e_iconst (pc := 160) dX4_isFed_160 kc_1 ?_
        refine e_iadd (pc := 161) dX4_isFed_161 ?_
        refine e_bipush (pc := 162) dX4_isFed_162 kb_99 ?_
        refine e_callS (pc := 164) (av := [.int (x22 + (1 : Int32)), .int (99 : Int32)]) (S := [.int x2, .ref r20]) ok_X4_held ⟨Nat.le_of_ble_eq_true rfl, Nat.le_of_ble_eq_true rfl⟩ ht_X4_133 dX4_isFed_164 (s_X4_held (x22 + (1 : Int32)) (99 : Int32) w19) rfl rfl (Nat.le_of_ble_eq_true rfl) (fun x24 w23 => ?_)
        refine e_iast (pc := 167) dX4_isFed_167 (fun w25 => ?_)
        exact e_vret (pc := 168) dX4_isFed_168 rfl
    · refine e_aload_n (pc := 52) dX4_isFed_52 rfl rfl ?_
      refine e_getR (pc := 53) dX4_isFed_53 hs_X4_25 (fun r26 => ?_)
      refine e_iload_n (pc := 56) dX4_isFed_56 rfl rfl ?_
      refine e_aload_n (pc := 57) dX4_isFed_57 rfl rfl ?_
      refine e_getR (pc := 58) dX4_isFed_58 hs_X4_25 (fun r27 => ?_)
      refine e_iload_n (pc := 61) dX4_isFed_61 rfl rfl ?_
      refine e_iald (pc := 62) dX4_isFed_62 (fun x28 => ?_)
      refine e_aload_n (pc := 63) dX4_isFed_63 rfl rfl ?_
      refine e_iload_n (pc := 64) dX4_isFed_64 rfl rfl ?_
      refine e_callV (pc := 65) (av := [.int a1]) (S := [.int x28, .int x2, .ref r26]) (c0 := 3) rfl rfl ok_X4_needOf ⟨Nat.le_of_ble_eq_true rfl, Nat.le_of_ble_eq_true rfl⟩ hv_X4_118 dX4_isFed_65 (s_X4_needOf a0 a1 w5) rfl rfl (Nat.le_of_ble_eq_true rfl) (fun x30 w29 => ?_)
      refine e_isub (pc := 68) dX4_isFed_68 ?_
      refine e_aload_n (pc := 69) dX4_isFed_69 rfl rfl ?_
      refine e_getI (pc := 70) dX4_isFed_70 hs_X4_136 (fun x31 => ?_)
      refine e_isub (pc := 73) dX4_isFed_73 ?_
      refine e_aload_n (pc := 74) dX4_isFed_74 rfl rfl ?_
      refine e_iload_n (pc := 75) dX4_isFed_75 rfl rfl ?_
      refine e_callV (pc := 76) (av := [.int a1]) (S := [.int ((x28 - x30) - x31), .int x2, .ref r26]) (c0 := 3) rfl rfl ok_X4_workOf ⟨Nat.le_of_ble_eq_true rfl, Nat.le_of_ble_eq_true rfl⟩ hv_X4_121 dX4_isFed_76 (s_X4_workOf a0 a1 w29) rfl rfl (Nat.le_of_ble_eq_true rfl) (fun x33 w32 => ?_)
      refine e_iadd (pc := 79) dX4_isFed_79 ?_
      refine e_sipush (pc := 80) dX4_isFed_80 ks_999 ?_
      refine e_callS (pc := 83) (av := [.int (((x28 - x30) - x31) + x33), .int (999 : Int32)]) (S := [.int x2, .ref r26]) ok_X4_held ⟨Nat.le_of_ble_eq_true rfl, Nat.le_of_ble_eq_true rfl⟩ ht_X4_133 dX4_isFed_83 (s_X4_held (((x28 - x30) - x31) + x33) (999 : Int32) w32) rfl rfl (Nat.le_of_ble_eq_true rfl) (fun x35 w34 => ?_)
      refine e_iast (pc := 86) dX4_isFed_86 (fun w36 => ?_)
      refine e_aload_n (pc := 87) dX4_isFed_87 rfl rfl ?_
      refine e_getR (pc := 88) dX4_isFed_88 hs_X4_19 (fun r37 => ?_)
      refine e_iload_n (pc := 91) dX4_isFed_91 rfl rfl ?_
      refine e_iconst (pc := 92) dX4_isFed_92 kc_0 ?_
      refine e_iast (pc := 93) dX4_isFed_93 (fun w38 => ?_)
      refine e_goto (pc := 94) (tgt := 168) dX4_isFed_94 (by decide) ?_
      exact e_vret (pc := 168) dX4_isFed_168 rfl
  · refine e_aload_n (pc := 11) dX4_isFed_11 rfl rfl ?_
    refine e_getR (pc := 12) dX4_isFed_12 hs_X4_19 (fun r39 => ?_)
    refine e_iload_n (pc := 15) dX4_isFed_15 rfl rfl ?_
    refine e_aload_n (pc := 16) dX4_isFed_16 rfl rfl ?_
    refine e_getR (pc := 17) dX4_isFed_17 hs_X4_19 (fun r40 => ?_)
    refine e_iload_n (pc := 20) dX4_isFed_20 rfl rfl ?_
    refine e_iald (pc := 21) dX4_isFed_21 (fun x41 => ?_)
    refine e_iconst (pc := 22) dX4_isFed_22 kc_1 ?_
    refine e_iadd (pc := 23) dX4_isFed_23 ?_
    refine e_bipush (pc := 24) dX4_isFed_24 kb_9 ?_
    refine e_callS (pc := 26) (av := [.int (x41 + (1 : Int32)), .int (9 : Int32)]) (S := [.int a1, .ref r39]) ok_X4_held ⟨Nat.le_of_ble_eq_true rfl, Nat.le_of_ble_eq_true rfl⟩ ht_X4_133 dX4_isFed_26 (s_X4_held (x41 + (1 : Int32)) (9 : Int32) w) rfl rfl (Nat.le_of_ble_eq_true rfl) (fun x43 w42 => ?_)
    refine e_iast (pc := 29) dX4_isFed_29 (fun w44 => ?_)
    refine e_goto (pc := 30) (tgt := 168) dX4_isFed_30 (by decide) ?_
    exact e_vret (pc := 168) dX4_isFed_168 rfl
def M_X4_dayOn : aM := (yX4_dayOn, cX4_dayOn, 2, none, 4, 92)
theorem ok_X4_dayOn : a_okM M_X4_dayOn 0 := ⟨⟨by decide +kernel, by decide +kernel⟩, by decide +kernel, a_in 1078 (by decide +kernel) rfl, a_in 79 (by decide +kernel) rfl⟩
theorem dX4_dayOn_0 : decode M_X4_dayOn.2.1 0 = .ok (.aload_n 0, 1) := by decide +kernel
theorem dX4_dayOn_1 : decode M_X4_dayOn.2.1 1 = .ok (.dup, 1) := by decide +kernel
theorem dX4_dayOn_2 : decode M_X4_dayOn.2.1 2 = .ok (.getfield 124, 3) := by decide +kernel
theorem dX4_dayOn_5 : decode M_X4_dayOn.2.1 5 = .ok (.iconst 1, 1) := by decide +kernel
theorem dX4_dayOn_6 : decode M_X4_dayOn.2.1 6 = .ok (.iadd, 1) := by decide +kernel
theorem dX4_dayOn_7 : decode M_X4_dayOn.2.1 7 = .ok (.putfield 124, 3) := by decide +kernel
theorem dX4_dayOn_10 : decode M_X4_dayOn.2.1 10 = .ok (.iconst 0, 1) := by decide +kernel
theorem dX4_dayOn_11 : decode M_X4_dayOn.2.1 11 = .ok (.istore_n 1, 1) := by decide +kernel
theorem dX4_dayOn_12 : decode M_X4_dayOn.2.1 12 = .ok (.iload_n 1, 1) := by decide +kernel
theorem dX4_dayOn_13 : decode M_X4_dayOn.2.1 13 = .ok (.aload_n 0, 1) := by decide +kernel
theorem dX4_dayOn_14 : decode M_X4_dayOn.2.1 14 = .ok (.getfield 92, 3) := by decide +kernel
theorem dX4_dayOn_17 : decode M_X4_dayOn.2.1 17 = .ok (.if_icmp .ge 25, 3) := by decide +kernel
theorem dX4_dayOn_20 : decode M_X4_dayOn.2.1 20 = .ok (.aload_n 0, 1) := by decide +kernel
theorem dX4_dayOn_21 : decode M_X4_dayOn.2.1 21 = .ok (.getfield 107, 3) := by decide +kernel
theorem dX4_dayOn_24 : decode M_X4_dayOn.2.1 24 = .ok (.iload_n 1, 1) := by decide +kernel
theorem dX4_dayOn_25 : decode M_X4_dayOn.2.1 25 = .ok (.invokestatic 110, 3) := by decide +kernel
theorem dX4_dayOn_28 : decode M_X4_dayOn.2.1 28 = .ok (.ifCond .eq 8, 3) := by decide +kernel
theorem dX4_dayOn_31 : decode M_X4_dayOn.2.1 31 = .ok (.aload_n 0, 1) := by decide +kernel
theorem dX4_dayOn_32 : decode M_X4_dayOn.2.1 32 = .ok (.iload_n 1, 1) := by decide +kernel
theorem dX4_dayOn_33 : decode M_X4_dayOn.2.1 33 = .ok (.invokevirtual 139, 3) := by decide +kernel
theorem dX4_dayOn_36 : decode M_X4_dayOn.2.1 36 = .ok (.iinc 1 1, 3) := by decide +kernel
theorem dX4_dayOn_39 : decode M_X4_dayOn.2.1 39 = .ok (.goto (-27), 3) := by decide +kernel
theorem dX4_dayOn_42 : decode M_X4_dayOn.2.1 42 = .ok (.iconst 0, 1) := by decide +kernel
theorem dX4_dayOn_43 : decode M_X4_dayOn.2.1 43 = .ok (.istore_n 1, 1) := by decide +kernel
theorem dX4_dayOn_44 : decode M_X4_dayOn.2.1 44 = .ok (.iload_n 1, 1) := by decide +kernel
theorem dX4_dayOn_45 : decode M_X4_dayOn.2.1 45 = .ok (.iconst 5, 1) := by decide +kernel
theorem dX4_dayOn_46 : decode M_X4_dayOn.2.1 46 = .ok (.if_icmp .ge 14, 3) := by decide +kernel
theorem dX4_dayOn_49 : decode M_X4_dayOn.2.1 49 = .ok (.aload_n 0, 1) := by decide +kernel
theorem dX4_dayOn_50 : decode M_X4_dayOn.2.1 50 = .ok (.iload_n 1, 1) := by decide +kernel
theorem dX4_dayOn_51 : decode M_X4_dayOn.2.1 51 = .ok (.invokevirtual 143, 3) := by decide +kernel
theorem dX4_dayOn_54 : decode M_X4_dayOn.2.1 54 = .ok (.iinc 1 1, 3) := by decide +kernel
theorem dX4_dayOn_57 : decode M_X4_dayOn.2.1 57 = .ok (.goto (-13), 3) := by decide +kernel
theorem dX4_dayOn_60 : decode M_X4_dayOn.2.1 60 = .ok (.iconst 0, 1) := by decide +kernel
theorem dX4_dayOn_61 : decode M_X4_dayOn.2.1 61 = .ok (.istore_n 1, 1) := by decide +kernel
theorem dX4_dayOn_62 : decode M_X4_dayOn.2.1 62 = .ok (.iload_n 1, 1) := by decide +kernel
theorem dX4_dayOn_63 : decode M_X4_dayOn.2.1 63 = .ok (.aload_n 0, 1) := by decide +kernel
theorem dX4_dayOn_64 : decode M_X4_dayOn.2.1 64 = .ok (.getfield 92, 3) := by decide +kernel
theorem dX4_dayOn_67 : decode M_X4_dayOn.2.1 67 = .ok (.if_icmp .ge 25, 3) := by decide +kernel
theorem dX4_dayOn_70 : decode M_X4_dayOn.2.1 70 = .ok (.aload_n 0, 1) := by decide +kernel
theorem dX4_dayOn_71 : decode M_X4_dayOn.2.1 71 = .ok (.getfield 107, 3) := by decide +kernel
theorem dX4_dayOn_74 : decode M_X4_dayOn.2.1 74 = .ok (.iload_n 1, 1) := by decide +kernel
theorem dX4_dayOn_75 : decode M_X4_dayOn.2.1 75 = .ok (.invokestatic 110, 3) := by decide +kernel
theorem dX4_dayOn_78 : decode M_X4_dayOn.2.1 78 = .ok (.ifCond .eq 8, 3) := by decide +kernel
theorem dX4_dayOn_81 : decode M_X4_dayOn.2.1 81 = .ok (.aload_n 0, 1) := by decide +kernel
theorem dX4_dayOn_82 : decode M_X4_dayOn.2.1 82 = .ok (.iload_n 1, 1) := by decide +kernel
theorem dX4_dayOn_83 : decode M_X4_dayOn.2.1 83 = .ok (.invokevirtual 146, 3) := by decide +kernel
theorem dX4_dayOn_86 : decode M_X4_dayOn.2.1 86 = .ok (.iinc 1 1, 3) := by decide +kernel
theorem dX4_dayOn_89 : decode M_X4_dayOn.2.1 89 = .ok (.goto (-27), 3) := by decide +kernel
theorem dX4_dayOn_92 : decode M_X4_dayOn.2.1 92 = .ok (.aload_n 0, 1) := by decide +kernel
theorem dX4_dayOn_93 : decode M_X4_dayOn.2.1 93 = .ok (.iconst 0, 1) := by decide +kernel
theorem dX4_dayOn_94 : decode M_X4_dayOn.2.1 94 = .ok (.putfield 136, 3) := by decide +kernel
theorem dX4_dayOn_97 : decode M_X4_dayOn.2.1 97 = .ok (.return_, 1) := by decide +kernel
theorem hw_X4_124 : a_fw RX4 124 3 11 (.int) := ⟨RX4, TX4, 37, tyX4, rfl, tin_X4, by decide, a_in 876 (by decide +kernel) rfl, tyX4_ok, nmX4, rfl, by decide +kernel⟩
theorem hv_X4_139 : a_okV RX4 M_X4_goes 139 := ⟨a_in 1079 (by decide +kernel) rfl, a_in 1081 (by decide +kernel) rfl, a_in 40 (by decide +kernel) rfl⟩
theorem hv_X4_143 : a_okV RX4 M_X4_speaks 143 := ⟨a_in 1098 (by decide +kernel) rfl, a_in 1100 (by decide +kernel) rfl, a_in 44 (by decide +kernel) rfl⟩
theorem hw_X4_136 : a_fw RX4 136 3 12 (.int) := ⟨RX4, TX4, 37, tyX4, rfl, tin_X4, by decide, a_in 877 (by decide +kernel) rfl, tyX4_ok, nmX4, rfl, by decide +kernel⟩
theorem hv_X4_146 : a_okV RX4 M_X4_isFed 146 := ⟨a_in 1114 (by decide +kernel) rfl, a_in 1116 (by decide +kernel) rfl, a_in 48 (by decide +kernel) rfl⟩
def c_X4_dayOn_62 (a0 : Nat) (k62 : Int32 → aW → Option (Unit × aW)) (b1 : Int32) (w : aW) : Option (Unit × aW) :=
  (gI 3 w a0 0).bind fun x9 =>
  if x9 ≤ b1 then
    (sF 3 w a0 12 (.int (0 : Int32))).bind fun w10 =>
    some ((), w10)
  else
    (gI 3 w a0 6).bind fun x11 =>
    bk (f_X4_hasBit x11 b1 w) fun x13 w12 =>
    if x13 = (0 : Int32) then
      k62 (b1 + 1) w12
    else
      cV 3 w12 a0 (bk (f_X4_isFed a0 b1 w12) fun _ w14 =>
      k62 (b1 + 1) w14)
theorem t_X4_dayOn_62 (a0 : Nat) (k62 : Int32 → aW → Option (Unit × aW)) (hk62 : ∀ (b1 : Int32) (w : aW), Ev rvV M_X4_dayOn 62 [some (.ref a0), some (.int b1)] [] w (k62 b1 w)) (b1 : Int32) (w : aW) : Ev rvV M_X4_dayOn 62 [some (.ref a0), some (.int b1)] [] w (c_X4_dayOn_62 a0 k62 b1 w) := by
  unfold c_X4_dayOn_62
  refine e_iload_n (pc := 62) dX4_dayOn_62 rfl rfl ?_
  refine e_aload_n (pc := 63) dX4_dayOn_63 rfl rfl ?_
  refine e_getI (pc := 64) dX4_dayOn_64 hs_X4_92 (fun x9 => ?_)
  refine e_icmp_ge (pc := 67) (tgt := 92) dX4_dayOn_67 (by decide) (fun _ => ?_) (fun _ => ?_)
  · refine e_aload_n (pc := 92) dX4_dayOn_92 rfl rfl ?_
    refine e_iconst (pc := 93) dX4_dayOn_93 kc_0 ?_
    refine e_put (pc := 94) dX4_dayOn_94 hw_X4_136 (fun _ => rfl) (fun _ => rfl) (fun w10 => ?_)
    exact e_vret (pc := 97) dX4_dayOn_97 rfl
  · refine e_aload_n (pc := 70) dX4_dayOn_70 rfl rfl ?_
    refine e_getI (pc := 71) dX4_dayOn_71 hs_X4_107 (fun x11 => ?_)
    refine e_iload_n (pc := 74) dX4_dayOn_74 rfl rfl ?_
    refine e_callS (pc := 75) (av := [.int x11, .int b1]) (S := []) ok_X4_hasBit ⟨Nat.le_of_ble_eq_true rfl, Nat.le_of_ble_eq_true rfl⟩ ht_X4_110 dX4_dayOn_75 (s_X4_hasBit x11 b1 w) rfl rfl (Nat.le_of_ble_eq_true rfl) (fun x13 w12 => ?_)
    refine e_if_eq (pc := 78) (tgt := 86) dX4_dayOn_78 (by decide) (fun _ => ?_) (fun _ => ?_)
    · refine e_iinc (L' := [some (.ref a0), some (.int (b1 + 1))]) (pc := 86) (v := 1) dX4_dayOn_86 (by decide) rfl kc_1 rfl ?_
      refine e_goto (pc := 89) (tgt := 62) dX4_dayOn_89 (by decide) ?_
      exact hk62 (b1 + 1) w12
    · refine e_aload_n (pc := 81) dX4_dayOn_81 rfl rfl ?_
      refine e_iload_n (pc := 82) dX4_dayOn_82 rfl rfl ?_
      refine e_callV (pc := 83) (av := [.int b1]) (S := []) (c0 := 3) rfl rfl ok_X4_isFed ⟨Nat.le_of_ble_eq_true rfl, Nat.le_of_ble_eq_true rfl⟩ hv_X4_146 dX4_dayOn_83 (s_X4_isFed a0 b1 w12) rfl rfl (Nat.le_of_ble_eq_true rfl) (fun _ w14 => ?_)
      refine e_iinc (L' := [some (.ref a0), some (.int (b1 + 1))]) (pc := 86) (v := 1) dX4_dayOn_86 (by decide) rfl kc_1 rfl ?_
      refine e_goto (pc := 89) (tgt := 62) dX4_dayOn_89 (by decide) ?_
      exact hk62 (b1 + 1) w14
def c_X4_dayOn_44 (a0 : Nat) (k44 : Int32 → aW → Option (Unit × aW)) (b1 : Int32) (w : aW) : Option (Unit × aW) :=
  if (5 : Int32) ≤ b1 then
    loop2 (c_X4_dayOn_62 a0) a_fuel (0 : Int32) w
  else
    cV 3 w a0 (bk (f_X4_speaks a0 b1 w) fun _ w8 =>
    k44 (b1 + 1) w8)
theorem t_X4_dayOn_44 (a0 : Nat) (k44 : Int32 → aW → Option (Unit × aW)) (hk44 : ∀ (b1 : Int32) (w : aW), Ev rvV M_X4_dayOn 44 [some (.ref a0), some (.int b1)] [] w (k44 b1 w)) (b1 : Int32) (w : aW) : Ev rvV M_X4_dayOn 44 [some (.ref a0), some (.int b1)] [] w (c_X4_dayOn_44 a0 k44 b1 w) := by
  unfold c_X4_dayOn_44
  refine e_iload_n (pc := 44) dX4_dayOn_44 rfl rfl ?_
  refine e_iconst (pc := 45) dX4_dayOn_45 kc_5 ?_
  refine e_icmp_ge (pc := 46) (tgt := 60) dX4_dayOn_46 (by decide) (fun _ => ?_) (fun _ => ?_)
  · refine e_iconst (pc := 60) dX4_dayOn_60 kc_0 ?_
    refine e_istore_n (L' := [some (.ref a0), some (.int (0 : Int32))]) (pc := 61) dX4_dayOn_61 rfl (by decide) rfl ?_
    exact e_loop2 (L := fun b1 => [some (.ref a0), some (.int b1)]) (S := fun b1 => []) (fun kf hkf => t_X4_dayOn_62 a0  kf hkf) _ (0 : Int32) w
  · refine e_aload_n (pc := 49) dX4_dayOn_49 rfl rfl ?_
    refine e_iload_n (pc := 50) dX4_dayOn_50 rfl rfl ?_
    refine e_callV (pc := 51) (av := [.int b1]) (S := []) (c0 := 3) rfl rfl ok_X4_speaks ⟨Nat.le_of_ble_eq_true rfl, Nat.le_of_ble_eq_true rfl⟩ hv_X4_143 dX4_dayOn_51 (s_X4_speaks a0 b1 w) rfl rfl (Nat.le_of_ble_eq_true rfl) (fun _ w8 => ?_)
    refine e_iinc (L' := [some (.ref a0), some (.int (b1 + 1))]) (pc := 54) (v := 1) dX4_dayOn_54 (by decide) rfl kc_1 rfl ?_
    refine e_goto (pc := 57) (tgt := 44) dX4_dayOn_57 (by decide) ?_
    exact hk44 (b1 + 1) w8
def c_X4_dayOn_12 (a0 : Nat) (k12 : Int32 → aW → Option (Unit × aW)) (b1 : Int32) (w : aW) : Option (Unit × aW) :=
  (gI 3 w a0 0).bind fun x3 =>
  if x3 ≤ b1 then
    loop2 (c_X4_dayOn_44 a0) a_fuel (0 : Int32) w
  else
    (gI 3 w a0 6).bind fun x4 =>
    bk (f_X4_hasBit x4 b1 w) fun x6 w5 =>
    if x6 = (0 : Int32) then
      k12 (b1 + 1) w5
    else
      cV 3 w5 a0 (bk (f_X4_goes a0 b1 w5) fun _ w7 =>
      k12 (b1 + 1) w7)
theorem t_X4_dayOn_12 (a0 : Nat) (k12 : Int32 → aW → Option (Unit × aW)) (hk12 : ∀ (b1 : Int32) (w : aW), Ev rvV M_X4_dayOn 12 [some (.ref a0), some (.int b1)] [] w (k12 b1 w)) (b1 : Int32) (w : aW) : Ev rvV M_X4_dayOn 12 [some (.ref a0), some (.int b1)] [] w (c_X4_dayOn_12 a0 k12 b1 w) := by
  unfold c_X4_dayOn_12
  refine e_iload_n (pc := 12) dX4_dayOn_12 rfl rfl ?_
  refine e_aload_n (pc := 13) dX4_dayOn_13 rfl rfl ?_
  refine e_getI (pc := 14) dX4_dayOn_14 hs_X4_92 (fun x3 => ?_)
  refine e_icmp_ge (pc := 17) (tgt := 42) dX4_dayOn_17 (by decide) (fun _ => ?_) (fun _ => ?_)
  · refine e_iconst (pc := 42) dX4_dayOn_42 kc_0 ?_
    refine e_istore_n (L' := [some (.ref a0), some (.int (0 : Int32))]) (pc := 43) dX4_dayOn_43 rfl (by decide) rfl ?_
    exact e_loop2 (L := fun b1 => [some (.ref a0), some (.int b1)]) (S := fun b1 => []) (fun kf hkf => t_X4_dayOn_44 a0  kf hkf) _ (0 : Int32) w
  · refine e_aload_n (pc := 20) dX4_dayOn_20 rfl rfl ?_
    refine e_getI (pc := 21) dX4_dayOn_21 hs_X4_107 (fun x4 => ?_)
    refine e_iload_n (pc := 24) dX4_dayOn_24 rfl rfl ?_
    refine e_callS (pc := 25) (av := [.int x4, .int b1]) (S := []) ok_X4_hasBit ⟨Nat.le_of_ble_eq_true rfl, Nat.le_of_ble_eq_true rfl⟩ ht_X4_110 dX4_dayOn_25 (s_X4_hasBit x4 b1 w) rfl rfl (Nat.le_of_ble_eq_true rfl) (fun x6 w5 => ?_)
    refine e_if_eq (pc := 28) (tgt := 36) dX4_dayOn_28 (by decide) (fun _ => ?_) (fun _ => ?_)
    · refine e_iinc (L' := [some (.ref a0), some (.int (b1 + 1))]) (pc := 36) (v := 1) dX4_dayOn_36 (by decide) rfl kc_1 rfl ?_
      refine e_goto (pc := 39) (tgt := 12) dX4_dayOn_39 (by decide) ?_
      exact hk12 (b1 + 1) w5
    · refine e_aload_n (pc := 31) dX4_dayOn_31 rfl rfl ?_
      refine e_iload_n (pc := 32) dX4_dayOn_32 rfl rfl ?_
      refine e_callV (pc := 33) (av := [.int b1]) (S := []) (c0 := 3) rfl rfl ok_X4_goes ⟨Nat.le_of_ble_eq_true rfl, Nat.le_of_ble_eq_true rfl⟩ hv_X4_139 dX4_dayOn_33 (s_X4_goes a0 b1 w5) rfl rfl (Nat.le_of_ble_eq_true rfl) (fun _ w7 => ?_)
      refine e_iinc (L' := [some (.ref a0), some (.int (b1 + 1))]) (pc := 36) (v := 1) dX4_dayOn_36 (by decide) rfl kc_1 rfl ?_
      refine e_goto (pc := 39) (tgt := 12) dX4_dayOn_39 (by decide) ?_
      exact hk12 (b1 + 1) w7
def f_X4_dayOn (a0 : Nat) (w : aW) : Option (Unit × aW) :=
  (gI 3 w a0 11).bind fun x1 =>
  (sF 3 w a0 11 (.int (x1 + (1 : Int32)))).bind fun w2 =>
  loop2 (c_X4_dayOn_12 a0) a_fuel (0 : Int32) w2
theorem s_X4_dayOn (a0 : Nat) (w : aW) : Sp rvV M_X4_dayOn [.ref a0] w (f_X4_dayOn a0 w) := by
  refine e_entry [some (.ref a0), none] (by decide +kernel) (Nat.le_of_ble_eq_true rfl) (fun _ => rfl) ?_
  unfold f_X4_dayOn
  refine e_aload_n (pc := 0) dX4_dayOn_0 rfl rfl ?_
  refine e_dup (pc := 1) dX4_dayOn_1 rfl ?_
  refine e_getI (pc := 2) dX4_dayOn_2 hs_X4_124 (fun x1 => ?_)
  refine e_iconst (pc := 5) dX4_dayOn_5 kc_1 ?_
  refine e_iadd (pc := 6) dX4_dayOn_6 ?_
  refine e_put (pc := 7) dX4_dayOn_7 hw_X4_124 (fun _ => rfl) (fun _ => rfl) (fun w2 => ?_)
  refine e_iconst (pc := 10) dX4_dayOn_10 kc_0 ?_
  refine e_istore_n (L' := [some (.ref a0), some (.int (0 : Int32))]) (pc := 11) dX4_dayOn_11 rfl (by decide) rfl ?_
  exact e_loop2 (L := fun b1 => [some (.ref a0), some (.int b1)]) (S := fun b1 => []) (fun kf hkf => t_X4_dayOn_12 a0  kf hkf) _ (0 : Int32) w2
def M_X4_goDays : aM := (yX4_goDays, cX4_goDays, 3, none, 5, 113)
theorem ok_X4_goDays : a_okM M_X4_goDays 1 := ⟨⟨by decide +kernel, by decide +kernel⟩, by decide +kernel, a_in 1074 (by decide +kernel) rfl, a_in 79 (by decide +kernel) rfl⟩
theorem dX4_goDays_0 : decode M_X4_goDays.2.1 0 = .ok (.iconst 0, 1) := by decide +kernel
theorem dX4_goDays_1 : decode M_X4_goDays.2.1 1 = .ok (.istore_n 2, 1) := by decide +kernel
theorem dX4_goDays_2 : decode M_X4_goDays.2.1 2 = .ok (.iload_n 2, 1) := by decide +kernel
theorem dX4_goDays_3 : decode M_X4_goDays.2.1 3 = .ok (.iload_n 1, 1) := by decide +kernel
theorem dX4_goDays_4 : decode M_X4_goDays.2.1 4 = .ok (.if_icmp .ge 13, 3) := by decide +kernel
theorem dX4_goDays_7 : decode M_X4_goDays.2.1 7 = .ok (.aload_n 0, 1) := by decide +kernel
theorem dX4_goDays_8 : decode M_X4_goDays.2.1 8 = .ok (.invokevirtual 149, 3) := by decide +kernel
theorem dX4_goDays_11 : decode M_X4_goDays.2.1 11 = .ok (.iinc 2 1, 3) := by decide +kernel
theorem dX4_goDays_14 : decode M_X4_goDays.2.1 14 = .ok (.goto (-12), 3) := by decide +kernel
theorem dX4_goDays_17 : decode M_X4_goDays.2.1 17 = .ok (.return_, 1) := by decide +kernel
theorem hv_X4_149 : a_okV RX4 M_X4_dayOn 149 := ⟨a_in 1075 (by decide +kernel) rfl, a_in 1077 (by decide +kernel) rfl, a_in 39 (by decide +kernel) rfl⟩
def c_X4_goDays_2 (a0 : Nat) (a1 : Int32) (k2 : Int32 → aW → Option (Unit × aW)) (b2 : Int32) (w : aW) : Option (Unit × aW) :=
  if a1 ≤ b2 then
    some ((), w)
  else
    cV 3 w a0 (bk (f_X4_dayOn a0 w) fun _ w1 =>
    k2 (b2 + 1) w1)
theorem t_X4_goDays_2 (a0 : Nat) (a1 : Int32) (k2 : Int32 → aW → Option (Unit × aW)) (hk2 : ∀ (b2 : Int32) (w : aW), Ev rvV M_X4_goDays 2 [some (.ref a0), some (.int a1), some (.int b2)] [] w (k2 b2 w)) (b2 : Int32) (w : aW) : Ev rvV M_X4_goDays 2 [some (.ref a0), some (.int a1), some (.int b2)] [] w (c_X4_goDays_2 a0 a1 k2 b2 w) := by
  unfold c_X4_goDays_2
  refine e_iload_n (pc := 2) dX4_goDays_2 rfl rfl ?_
  refine e_iload_n (pc := 3) dX4_goDays_3 rfl rfl ?_
  refine e_icmp_ge (pc := 4) (tgt := 17) dX4_goDays_4 (by decide) (fun _ => ?_) (fun _ => ?_)
  · exact e_vret (pc := 17) dX4_goDays_17 rfl
  · refine e_aload_n (pc := 7) dX4_goDays_7 rfl rfl ?_
    refine e_callV (pc := 8) (av := []) (S := []) (c0 := 3) rfl rfl ok_X4_dayOn ⟨Nat.le_of_ble_eq_true rfl, Nat.le_of_ble_eq_true rfl⟩ hv_X4_149 dX4_goDays_8 (s_X4_dayOn a0 w) rfl rfl (Nat.le_of_ble_eq_true rfl) (fun _ w1 => ?_)
    refine e_iinc (L' := [some (.ref a0), some (.int a1), some (.int (b2 + 1))]) (pc := 11) (v := 1) dX4_goDays_11 (by decide) rfl kc_1 rfl ?_
    refine e_goto (pc := 14) (tgt := 2) dX4_goDays_14 (by decide) ?_
    exact hk2 (b2 + 1) w1
def f_X4_goDays (a0 : Nat) (a1 : Int32) (w : aW) : Option (Unit × aW) :=
  loop2 (c_X4_goDays_2 a0 a1) a_fuel (0 : Int32) w
theorem s_X4_goDays (a0 : Nat) (a1 : Int32) (w : aW) : Sp rvV M_X4_goDays [.ref a0, .int a1] w (f_X4_goDays a0 a1 w) := by
  refine e_entry [some (.ref a0), some (.int a1), none] (by decide +kernel) (Nat.le_of_ble_eq_true rfl) (fun _ => rfl) ?_
  unfold f_X4_goDays
  refine e_iconst (pc := 0) dX4_goDays_0 kc_0 ?_
  refine e_istore_n (L' := [some (.ref a0), some (.int a1), some (.int (0 : Int32))]) (pc := 1) dX4_goDays_1 rfl (by decide) rfl ?_
  exact e_loop2 (L := fun b2 => [some (.ref a0), some (.int a1), some (.int b2)]) (S := fun b2 => []) (fun kf hkf => t_X4_goDays_2 a0 a1  kf hkf) _ (0 : Int32) w
def M_X4_here : aM := (yX4_here, cX4_here, 1, (some .int), 0, 0)
theorem ok_X4_here : a_okM M_X4_here 0 := ⟨⟨by decide +kernel, by decide +kernel⟩, by decide +kernel, a_in 1001 (by decide +kernel) rfl, a_in 79 (by decide +kernel) rfl⟩
theorem dX4_here_0 : decode M_X4_here.2.1 0 = .ok (.aload_n 0, 1) := by decide +kernel
theorem dX4_here_1 : decode M_X4_here.2.1 1 = .ok (.getfield 152, 3) := by decide +kernel
theorem dX4_here_4 : decode M_X4_here.2.1 4 = .ok (.aload_n 0, 1) := by decide +kernel
theorem dX4_here_5 : decode M_X4_here.2.1 5 = .ok (.getfield 49, 3) := by decide +kernel
theorem dX4_here_8 : decode M_X4_here.2.1 8 = .ok (.aload_n 0, 1) := by decide +kernel
theorem dX4_here_9 : decode M_X4_here.2.1 9 = .ok (.getfield 155, 3) := by decide +kernel
theorem dX4_here_12 : decode M_X4_here.2.1 12 = .ok (.iaload, 1) := by decide +kernel
theorem dX4_here_13 : decode M_X4_here.2.1 13 = .ok (.if_icmp .ge 24, 3) := by decide +kernel
theorem dX4_here_16 : decode M_X4_here.2.1 16 = .ok (.aload_n 0, 1) := by decide +kernel
theorem dX4_here_17 : decode M_X4_here.2.1 17 = .ok (.getfield 52, 3) := by decide +kernel
theorem dX4_here_20 : decode M_X4_here.2.1 20 = .ok (.bipush 100, 2) := by decide +kernel
theorem dX4_here_22 : decode M_X4_here.2.1 22 = .ok (.aload_n 0, 1) := by decide +kernel
theorem dX4_here_23 : decode M_X4_here.2.1 23 = .ok (.getfield 155, 3) := by decide +kernel
theorem dX4_here_26 : decode M_X4_here.2.1 26 = .ok (.imul, 1) := by decide +kernel
theorem dX4_here_27 : decode M_X4_here.2.1 27 = .ok (.aload_n 0, 1) := by decide +kernel
theorem dX4_here_28 : decode M_X4_here.2.1 28 = .ok (.getfield 152, 3) := by decide +kernel
theorem dX4_here_31 : decode M_X4_here.2.1 31 = .ok (.iadd, 1) := by decide +kernel
theorem dX4_here_32 : decode M_X4_here.2.1 32 = .ok (.laload, 1) := by decide +kernel
theorem dX4_here_33 : decode M_X4_here.2.1 33 = .ok (.l2i, 1) := by decide +kernel
theorem dX4_here_34 : decode M_X4_here.2.1 34 = .ok (.goto 6, 3) := by decide +kernel
theorem dX4_here_37 : decode M_X4_here.2.1 37 = .ok (.sipush (-999), 3) := by decide +kernel
theorem dX4_here_40 : decode M_X4_here.2.1 40 = .ok (.ireturn, 1) := by decide +kernel
theorem hs_X4_152 : a_fs RX4 152 3 21 := ⟨RX4, TX4, 37, rfl, tin_X4, by decide, a_in 886 (by decide +kernel) rfl⟩
theorem hs_X4_49 : a_fs RX4 49 3 17 := ⟨RX4, TX4, 37, rfl, tin_X4, by decide, a_in 882 (by decide +kernel) rfl⟩
theorem hs_X4_155 : a_fs RX4 155 3 20 := ⟨RX4, TX4, 37, rfl, tin_X4, by decide, a_in 885 (by decide +kernel) rfl⟩
theorem hs_X4_52 : a_fs RX4 52 3 18 := ⟨RX4, TX4, 37, rfl, tin_X4, by decide, a_in 883 (by decide +kernel) rfl⟩
def f_X4_here (a0 : Nat) (w : aW) : Option (Int32 × aW) :=
  (gI 3 w a0 21).bind fun x1 =>
  (gR 3 w a0 17).bind fun r2 =>
  (gI 3 w a0 20).bind fun x3 =>
  (gA w r2 x3).bind fun x4 =>
  if x4 ≤ x1 then
    some ((-999 : Int32), w)
  else
    (gR 3 w a0 18).bind fun r5 =>
    (gI 3 w a0 20).bind fun x6 =>
    (gI 3 w a0 21).bind fun x7 =>
    (gL w r5 (((100 : Int32) * x6) + x7)).bind fun x8 =>
    some (x8.toInt32, w)
theorem s_X4_here (a0 : Nat) (w : aW) : Sp rvI M_X4_here [.ref a0] w (f_X4_here a0 w) := by
  refine e_entry [some (.ref a0)] (by decide +kernel) (Nat.le_of_ble_eq_true rfl) (fun _ => rfl) ?_
  unfold f_X4_here
  refine e_aload_n (pc := 0) dX4_here_0 rfl rfl ?_
  refine e_getI (pc := 1) dX4_here_1 hs_X4_152 (fun x1 => ?_)
  refine e_aload_n (pc := 4) dX4_here_4 rfl rfl ?_
  refine e_getR (pc := 5) dX4_here_5 hs_X4_49 (fun r2 => ?_)
  refine e_aload_n (pc := 8) dX4_here_8 rfl rfl ?_
  refine e_getI (pc := 9) dX4_here_9 hs_X4_155 (fun x3 => ?_)
  refine e_iald (pc := 12) dX4_here_12 (fun x4 => ?_)
  refine e_icmp_ge (pc := 13) (tgt := 37) dX4_here_13 (by decide) (fun _ => ?_) (fun _ => ?_)
  · refine e_sipush (pc := 37) dX4_here_37 ks_m999 ?_
    exact e_iret (pc := 40) dX4_here_40 rfl rfl
  · refine e_aload_n (pc := 16) dX4_here_16 rfl rfl ?_
    refine e_getR (pc := 17) dX4_here_17 hs_X4_52 (fun r5 => ?_)
    refine e_bipush (pc := 20) dX4_here_20 kb_100 ?_
    refine e_aload_n (pc := 22) dX4_here_22 rfl rfl ?_
    refine e_getI (pc := 23) dX4_here_23 hs_X4_155 (fun x6 => ?_)
    refine e_imul (pc := 26) dX4_here_26 ?_
    refine e_aload_n (pc := 27) dX4_here_27 rfl rfl ?_
    refine e_getI (pc := 28) dX4_here_28 hs_X4_152 (fun x7 => ?_)
    refine e_iadd (pc := 31) dX4_here_31 ?_
    refine e_lald (pc := 32) dX4_here_32 (fun x8 => ?_)
    refine e_l2i (pc := 33) dX4_here_33 ?_
    refine e_goto (pc := 34) (tgt := 40) dX4_here_34 (by decide) ?_
    exact e_iret (pc := 40) dX4_here_40 rfl rfl
def M_X4_readDigits : aM := (yX4_readDigits, cX4_readDigits, 4, (some .int), 1, 25)
theorem ok_X4_readDigits : a_okM M_X4_readDigits 1 := ⟨⟨by decide +kernel, by decide +kernel⟩, by decide +kernel, a_in 1012 (by decide +kernel) rfl, a_in 79 (by decide +kernel) rfl⟩
theorem dX4_readDigits_0 : decode M_X4_readDigits.2.1 0 = .ok (.iconst 0, 1) := by decide +kernel
theorem dX4_readDigits_1 : decode M_X4_readDigits.2.1 1 = .ok (.istore_n 2, 1) := by decide +kernel
theorem dX4_readDigits_2 : decode M_X4_readDigits.2.1 2 = .ok (.iconst 0, 1) := by decide +kernel
theorem dX4_readDigits_3 : decode M_X4_readDigits.2.1 3 = .ok (.istore_n 3, 1) := by decide +kernel
theorem dX4_readDigits_4 : decode M_X4_readDigits.2.1 4 = .ok (.iload_n 3, 1) := by decide +kernel
theorem dX4_readDigits_5 : decode M_X4_readDigits.2.1 5 = .ok (.iload_n 1, 1) := by decide +kernel
theorem dX4_readDigits_6 : decode M_X4_readDigits.2.1 6 = .ok (.if_icmp .ge 87, 3) := by decide +kernel
theorem dX4_readDigits_9 : decode M_X4_readDigits.2.1 9 = .ok (.aload_n 0, 1) := by decide +kernel
theorem dX4_readDigits_10 : decode M_X4_readDigits.2.1 10 = .ok (.aload_n 0, 1) := by decide +kernel
theorem dX4_readDigits_11 : decode M_X4_readDigits.2.1 11 = .ok (.getfield 158, 3) := by decide +kernel
theorem dX4_readDigits_14 : decode M_X4_readDigits.2.1 14 = .ok (.ifCond .ne 20, 3) := by decide +kernel
theorem dX4_readDigits_17 : decode M_X4_readDigits.2.1 17 = .ok (.aload_n 0, 1) := by decide +kernel
theorem dX4_readDigits_18 : decode M_X4_readDigits.2.1 18 = .ok (.invokevirtual 162, 3) := by decide +kernel
theorem dX4_readDigits_21 : decode M_X4_readDigits.2.1 21 = .ok (.i2l, 1) := by decide +kernel
theorem dX4_readDigits_22 : decode M_X4_readDigits.2.1 22 = .ok (.ldc2_w 165, 3) := by decide +kernel
theorem dX4_readDigits_25 : decode M_X4_readDigits.2.1 25 = .ok (.ldc2_w 167, 3) := by decide +kernel
theorem dX4_readDigits_28 : decode M_X4_readDigits.2.1 28 = .ok (.invokestatic 86, 3) := by decide +kernel
theorem dX4_readDigits_31 : decode M_X4_readDigits.2.1 31 = .ok (.ifCond .ne 7, 3) := by decide +kernel
theorem dX4_readDigits_34 : decode M_X4_readDigits.2.1 34 = .ok (.iconst 1, 1) := by decide +kernel
theorem dX4_readDigits_35 : decode M_X4_readDigits.2.1 35 = .ok (.goto 4, 3) := by decide +kernel
theorem dX4_readDigits_38 : decode M_X4_readDigits.2.1 38 = .ok (.iconst 0, 1) := by decide +kernel
theorem dX4_readDigits_39 : decode M_X4_readDigits.2.1 39 = .ok (.putfield 158, 3) := by decide +kernel
theorem dX4_readDigits_42 : decode M_X4_readDigits.2.1 42 = .ok (.aload_n 0, 1) := by decide +kernel
theorem dX4_readDigits_43 : decode M_X4_readDigits.2.1 43 = .ok (.getfield 158, 3) := by decide +kernel
theorem dX4_readDigits_46 : decode M_X4_readDigits.2.1 46 = .ok (.ifCond .eq 7, 3) := by decide +kernel
theorem dX4_readDigits_49 : decode M_X4_readDigits.2.1 49 = .ok (.iconst 0, 1) := by decide +kernel
theorem dX4_readDigits_50 : decode M_X4_readDigits.2.1 50 = .ok (.goto 15, 3) := by decide +kernel
theorem dX4_readDigits_53 : decode M_X4_readDigits.2.1 53 = .ok (.bipush 10, 2) := by decide +kernel
theorem dX4_readDigits_55 : decode M_X4_readDigits.2.1 55 = .ok (.iload_n 2, 1) := by decide +kernel
theorem dX4_readDigits_56 : decode M_X4_readDigits.2.1 56 = .ok (.imul, 1) := by decide +kernel
theorem dX4_readDigits_57 : decode M_X4_readDigits.2.1 57 = .ok (.aload_n 0, 1) := by decide +kernel
theorem dX4_readDigits_58 : decode M_X4_readDigits.2.1 58 = .ok (.invokevirtual 162, 3) := by decide +kernel
theorem dX4_readDigits_61 : decode M_X4_readDigits.2.1 61 = .ok (.iadd, 1) := by decide +kernel
theorem dX4_readDigits_62 : decode M_X4_readDigits.2.1 62 = .ok (.bipush 48, 2) := by decide +kernel
theorem dX4_readDigits_64 : decode M_X4_readDigits.2.1 64 = .ok (.isub, 1) := by decide +kernel
theorem dX4_readDigits_65 : decode M_X4_readDigits.2.1 65 = .ok (.istore_n 2, 1) := by decide +kernel
theorem dX4_readDigits_66 : decode M_X4_readDigits.2.1 66 = .ok (.aload_n 0, 1) := by decide +kernel
theorem dX4_readDigits_67 : decode M_X4_readDigits.2.1 67 = .ok (.dup, 1) := by decide +kernel
theorem dX4_readDigits_68 : decode M_X4_readDigits.2.1 68 = .ok (.getfield 152, 3) := by decide +kernel
theorem dX4_readDigits_71 : decode M_X4_readDigits.2.1 71 = .ok (.aload_n 0, 1) := by decide +kernel
theorem dX4_readDigits_72 : decode M_X4_readDigits.2.1 72 = .ok (.getfield 158, 3) := by decide +kernel
theorem dX4_readDigits_75 : decode M_X4_readDigits.2.1 75 = .ok (.ifCond .eq 7, 3) := by decide +kernel
theorem dX4_readDigits_78 : decode M_X4_readDigits.2.1 78 = .ok (.iconst 0, 1) := by decide +kernel
theorem dX4_readDigits_79 : decode M_X4_readDigits.2.1 79 = .ok (.goto 4, 3) := by decide +kernel
theorem dX4_readDigits_82 : decode M_X4_readDigits.2.1 82 = .ok (.iconst 1, 1) := by decide +kernel
theorem dX4_readDigits_83 : decode M_X4_readDigits.2.1 83 = .ok (.iadd, 1) := by decide +kernel
theorem dX4_readDigits_84 : decode M_X4_readDigits.2.1 84 = .ok (.putfield 152, 3) := by decide +kernel
theorem dX4_readDigits_87 : decode M_X4_readDigits.2.1 87 = .ok (.iinc 3 1, 3) := by decide +kernel
theorem dX4_readDigits_90 : decode M_X4_readDigits.2.1 90 = .ok (.goto (-86), 3) := by decide +kernel
theorem dX4_readDigits_93 : decode M_X4_readDigits.2.1 93 = .ok (.iload_n 2, 1) := by decide +kernel
theorem dX4_readDigits_94 : decode M_X4_readDigits.2.1 94 = .ok (.ireturn, 1) := by decide +kernel
theorem hs_X4_158 : a_fs RX4 158 3 22 := ⟨RX4, TX4, 37, rfl, tin_X4, by decide, a_in 887 (by decide +kernel) rfl⟩
theorem hv_X4_162 : a_okV RX4 M_X4_here 162 := ⟨a_in 998 (by decide +kernel) rfl, a_in 1000 (by decide +kernel) rfl, a_in 24 (by decide +kernel) rfl⟩
theorem hw_X4_158 : a_fw RX4 158 3 22 (.boolean) := ⟨RX4, TX4, 37, tyX4, rfl, tin_X4, by decide, a_in 887 (by decide +kernel) rfl, tyX4_ok, nmX4, rfl, by decide +kernel⟩
theorem hw_X4_152 : a_fw RX4 152 3 21 (.int) := ⟨RX4, TX4, 37, tyX4, rfl, tin_X4, by decide, a_in 886 (by decide +kernel) rfl, tyX4_ok, nmX4, rfl, by decide +kernel⟩
def c_X4_readDigits_65 (a0 : Nat) (a1 : Int32) (k4 : Int32 → Int32 → aW → Option (Int32 × aW)) (b3 : Int32) (s0 : Int32) (w : aW) : Option (Int32 × aW) :=
  (gI 3 w a0 21).bind fun x11 =>
  (gI 3 w a0 22).bind fun x12 =>
  if x12 = (0 : Int32) then
    (sF 3 w a0 21 (.int (x11 + (1 : Int32)))).bind fun w13 =>
    k4 s0 (b3 + 1) w13
  else
    (sF 3 w a0 21 (.int (x11 + (0 : Int32)))).bind fun w14 =>
    k4 s0 (b3 + 1) w14
theorem t_X4_readDigits_65 (a0 : Nat) (a1 : Int32) (k4 : Int32 → Int32 → aW → Option (Int32 × aW)) (hk4 : ∀ (b2 : Int32) (b3 : Int32) (w : aW), Ev rvI M_X4_readDigits 4 [some (.ref a0), some (.int a1), some (.int b2), some (.int b3)] [] w (k4 b2 b3 w)) (b3 : Int32) (s0 : Int32) (w : aW) : Ev rvI M_X4_readDigits 65 [some (.ref a0), some (.int a1), none, some (.int b3)] [.int s0] w (c_X4_readDigits_65 a0 a1 k4 b3 s0 w) := by
  unfold c_X4_readDigits_65
  refine e_istore_n (L' := [some (.ref a0), some (.int a1), some (.int s0), some (.int b3)]) (pc := 65) dX4_readDigits_65 rfl (by decide) rfl ?_
  refine e_aload_n (pc := 66) dX4_readDigits_66 rfl rfl ?_
  refine e_dup (pc := 67) dX4_readDigits_67 rfl ?_
  refine e_getI (pc := 68) dX4_readDigits_68 hs_X4_152 (fun x11 => ?_)
  refine e_aload_n (pc := 71) dX4_readDigits_71 rfl rfl ?_
  refine e_getI (pc := 72) dX4_readDigits_72 hs_X4_158 (fun x12 => ?_)
  refine e_if_eq (pc := 75) (tgt := 82) dX4_readDigits_75 (by decide) (fun _ => ?_) (fun _ => ?_)
  · refine e_iconst (pc := 82) dX4_readDigits_82 kc_1 ?_
    refine e_iadd (pc := 83) dX4_readDigits_83 ?_
    refine e_put (pc := 84) dX4_readDigits_84 hw_X4_152 (fun _ => rfl) (fun _ => rfl) (fun w13 => ?_)
    refine e_iinc (L' := [some (.ref a0), some (.int a1), some (.int s0), some (.int (b3 + 1))]) (pc := 87) (v := 1) dX4_readDigits_87 (by decide) rfl kc_1 rfl ?_
    refine e_goto (pc := 90) (tgt := 4) dX4_readDigits_90 (by decide) ?_
    exact hk4 s0 (b3 + 1) w13
  · refine e_iconst (pc := 78) dX4_readDigits_78 kc_0 ?_
    refine e_goto (pc := 79) (tgt := 83) dX4_readDigits_79 (by decide) ?_
    refine e_iadd (pc := 83) dX4_readDigits_83 ?_
    refine e_put (pc := 84) dX4_readDigits_84 hw_X4_152 (fun _ => rfl) (fun _ => rfl) (fun w14 => ?_)
    refine e_iinc (L' := [some (.ref a0), some (.int a1), some (.int s0), some (.int (b3 + 1))]) (pc := 87) (v := 1) dX4_readDigits_87 (by decide) rfl kc_1 rfl ?_
    refine e_goto (pc := 90) (tgt := 4) dX4_readDigits_90 (by decide) ?_
    exact hk4 s0 (b3 + 1) w14
def c_X4_readDigits_39 (a0 : Nat) (a1 : Int32) (k4 : Int32 → Int32 → aW → Option (Int32 × aW)) (b2 : Int32) (b3 : Int32) (s0 : Int32) (s1 : Nat) (w : aW) : Option (Int32 × aW) :=
  if ¬ (s0 = 0 ∨ s0 = 1) then none else
  (sF 3 w s1 22 (.int s0)).bind fun w6 =>
  (gI 3 w6 a0 22).bind fun x8 =>
  if x8 = (0 : Int32) then
    cV 3 w6 a0 (bk (f_X4_here a0 w6) fun x10 w9 =>
    c_X4_readDigits_65 a0 a1 k4 b3 ((((10 : Int32) * b2) + x10) - (48 : Int32)) w9)
  else
    c_X4_readDigits_65 a0 a1 k4 b3 (0 : Int32) w6
theorem t_X4_readDigits_39 (a0 : Nat) (a1 : Int32) (k4 : Int32 → Int32 → aW → Option (Int32 × aW)) (hk4 : ∀ (b2 : Int32) (b3 : Int32) (w : aW), Ev rvI M_X4_readDigits 4 [some (.ref a0), some (.int a1), some (.int b2), some (.int b3)] [] w (k4 b2 b3 w)) (b2 : Int32) (b3 : Int32) (s0 : Int32) (s1 : Nat) (w : aW) : Ev rvI M_X4_readDigits 39 [some (.ref a0), some (.int a1), some (.int b2), some (.int b3)] [.int s0, .ref s1] w (c_X4_readDigits_39 a0 a1 k4 b2 b3 s0 s1 w) := by
  unfold c_X4_readDigits_39
  refine e_chk (fun h7 => ?_)
  refine e_put (pc := 39) dX4_readDigits_39 hw_X4_158 (fun _ => a_nb (Decidable.not_not.mp h7)) (fun _ => a_fb (Decidable.not_not.mp h7)) (fun w6 => ?_)
  refine e_aload_n (pc := 42) dX4_readDigits_42 rfl rfl ?_
  refine e_getI (pc := 43) dX4_readDigits_43 hs_X4_158 (fun x8 => ?_)
  refine e_if_eq (pc := 46) (tgt := 53) dX4_readDigits_46 (by decide) (fun _ => ?_) (fun _ => ?_)
  · refine e_bipush (pc := 53) dX4_readDigits_53 kb_10 ?_
    refine e_iload_n (pc := 55) dX4_readDigits_55 rfl rfl ?_
    refine e_imul (pc := 56) dX4_readDigits_56 ?_
    refine e_aload_n (pc := 57) dX4_readDigits_57 rfl rfl ?_
    refine e_callV (pc := 58) (av := []) (S := [.int ((10 : Int32) * b2)]) (c0 := 3) rfl rfl ok_X4_here ⟨Nat.le_of_ble_eq_true rfl, Nat.le_of_ble_eq_true rfl⟩ hv_X4_162 dX4_readDigits_58 (s_X4_here a0 w6) rfl rfl (Nat.le_of_ble_eq_true rfl) (fun x10 w9 => ?_)
    refine e_iadd (pc := 61) dX4_readDigits_61 ?_
    refine e_bipush (pc := 62) dX4_readDigits_62 kb_48 ?_
    refine e_isub (pc := 64) dX4_readDigits_64 ?_
    refine e_forget (L2 := [some (.ref a0), some (.int a1), none, some (.int b3)]) (And.intro rfl (And.intro rfl (And.intro rfl trivial))) ?_
    exact t_X4_readDigits_65 a0 a1 k4 hk4 b3 ((((10 : Int32) * b2) + x10) - (48 : Int32)) w9
  · refine e_iconst (pc := 49) dX4_readDigits_49 kc_0 ?_
    refine e_goto (pc := 50) (tgt := 65) dX4_readDigits_50 (by decide) ?_
    refine e_forget (L2 := [some (.ref a0), some (.int a1), none, some (.int b3)]) (And.intro rfl (And.intro rfl (And.intro rfl trivial))) ?_
    exact t_X4_readDigits_65 a0 a1 k4 hk4 b3 (0 : Int32) w6
def c_X4_readDigits_4 (a0 : Nat) (a1 : Int32) (k4 : Int32 → Int32 → aW → Option (Int32 × aW)) (b2 : Int32) (b3 : Int32) (w : aW) : Option (Int32 × aW) :=
  if a1 ≤ b3 then
    some (b2, w)
  else
    (gI 3 w a0 22).bind fun x1 =>
    if ¬ x1 = (0 : Int32) then
      c_X4_readDigits_39 a0 a1 k4 b2 b3 (1 : Int32) a0 w
    else
      cV 3 w a0 (bk (f_X4_here a0 w) fun x3 w2 =>
      bk (f_X4_in x3.toInt64 (48 : Int64) (57 : Int64) w2) fun x5 w4 =>
      if ¬ x5 = (0 : Int32) then
        c_X4_readDigits_39 a0 a1 k4 b2 b3 (0 : Int32) a0 w4
      else
        c_X4_readDigits_39 a0 a1 k4 b2 b3 (1 : Int32) a0 w4)
theorem t_X4_readDigits_4 (a0 : Nat) (a1 : Int32) (k4 : Int32 → Int32 → aW → Option (Int32 × aW)) (hk4 : ∀ (b2 : Int32) (b3 : Int32) (w : aW), Ev rvI M_X4_readDigits 4 [some (.ref a0), some (.int a1), some (.int b2), some (.int b3)] [] w (k4 b2 b3 w)) (b2 : Int32) (b3 : Int32) (w : aW) : Ev rvI M_X4_readDigits 4 [some (.ref a0), some (.int a1), some (.int b2), some (.int b3)] [] w (c_X4_readDigits_4 a0 a1 k4 b2 b3 w) := by
  unfold c_X4_readDigits_4
  refine e_iload_n (pc := 4) dX4_readDigits_4 rfl rfl ?_
  refine e_iload_n (pc := 5) dX4_readDigits_5 rfl rfl ?_
  refine e_icmp_ge (pc := 6) (tgt := 93) dX4_readDigits_6 (by decide) (fun _ => ?_) (fun _ => ?_)
  · refine e_iload_n (pc := 93) dX4_readDigits_93 rfl rfl ?_
    exact e_iret (pc := 94) dX4_readDigits_94 rfl rfl
  · refine e_aload_n (pc := 9) dX4_readDigits_9 rfl rfl ?_
    refine e_aload_n (pc := 10) dX4_readDigits_10 rfl rfl ?_
    refine e_getI (pc := 11) dX4_readDigits_11 hs_X4_158 (fun x1 => ?_)
    refine e_if_ne (pc := 14) (tgt := 34) dX4_readDigits_14 (by decide) (fun _ => ?_) (fun _ => ?_)
    · refine e_iconst (pc := 34) dX4_readDigits_34 kc_1 ?_
      refine e_goto (pc := 35) (tgt := 39) dX4_readDigits_35 (by decide) ?_
      exact t_X4_readDigits_39 a0 a1 k4 hk4 b2 b3 (1 : Int32) a0 w
    · refine e_aload_n (pc := 17) dX4_readDigits_17 rfl rfl ?_
      refine e_callV (pc := 18) (av := []) (S := [.ref a0]) (c0 := 3) rfl rfl ok_X4_here ⟨Nat.le_of_ble_eq_true rfl, Nat.le_of_ble_eq_true rfl⟩ hv_X4_162 dX4_readDigits_18 (s_X4_here a0 w) rfl rfl (Nat.le_of_ble_eq_true rfl) (fun x3 w2 => ?_)
      refine e_i2l (pc := 21) dX4_readDigits_21 ?_
      refine e_ldc2 (pc := 22) (v := 48) dX4_readDigits_22 (a_in 1013 (by decide +kernel) rfl) ?_
      refine e_ldc2 (pc := 25) (v := 57) dX4_readDigits_25 (a_in 1014 (by decide +kernel) rfl) ?_
      refine e_callS (pc := 28) (av := [.long x3.toInt64, .long (48 : Int64), .long (57 : Int64)]) (S := [.ref a0]) ok_X4_in ⟨Nat.le_of_ble_eq_true rfl, Nat.le_of_ble_eq_true rfl⟩ ht_X4_86 dX4_readDigits_28 (s_X4_in x3.toInt64 (48 : Int64) (57 : Int64) w2) rfl rfl (Nat.le_of_ble_eq_true rfl) (fun x5 w4 => ?_)
      refine e_if_ne (pc := 31) (tgt := 38) dX4_readDigits_31 (by decide) (fun _ => ?_) (fun _ => ?_)
      · refine e_iconst (pc := 38) dX4_readDigits_38 kc_0 ?_
        exact t_X4_readDigits_39 a0 a1 k4 hk4 b2 b3 (0 : Int32) a0 w4
      · refine e_iconst (pc := 34) dX4_readDigits_34 kc_1 ?_
        refine e_goto (pc := 35) (tgt := 39) dX4_readDigits_35 (by decide) ?_
        exact t_X4_readDigits_39 a0 a1 k4 hk4 b2 b3 (1 : Int32) a0 w4
def f_X4_readDigits (a0 : Nat) (a1 : Int32) (w : aW) : Option (Int32 × aW) :=
  loop3 (c_X4_readDigits_4 a0 a1) a_fuel (0 : Int32) (0 : Int32) w
theorem s_X4_readDigits (a0 : Nat) (a1 : Int32) (w : aW) : Sp rvI M_X4_readDigits [.ref a0, .int a1] w (f_X4_readDigits a0 a1 w) := by
  refine e_entry [some (.ref a0), some (.int a1), none, none] (by decide +kernel) (Nat.le_of_ble_eq_true rfl) (fun _ => rfl) ?_
  unfold f_X4_readDigits
  refine e_iconst (pc := 0) dX4_readDigits_0 kc_0 ?_
  refine e_istore_n (L' := [some (.ref a0), some (.int a1), some (.int (0 : Int32)), none]) (pc := 1) dX4_readDigits_1 rfl (by decide) rfl ?_
  refine e_iconst (pc := 2) dX4_readDigits_2 kc_0 ?_
  refine e_istore_n (L' := [some (.ref a0), some (.int a1), some (.int (0 : Int32)), some (.int (0 : Int32))]) (pc := 3) dX4_readDigits_3 rfl (by decide) rfl ?_
  exact e_loop3 (L := fun b2 b3 => [some (.ref a0), some (.int a1), some (.int b2), some (.int b3)]) (S := fun b2 b3 => []) (fun kf hkf => t_X4_readDigits_4 a0 a1  kf hkf) _ (0 : Int32) (0 : Int32) w
def M_X4_isLetter : aM := (yX4_isLetter, cX4_isLetter, 1, (some .boolean), 0, 0)
theorem ok_X4_isLetter : a_okM M_X4_isLetter 1 := ⟨⟨by decide +kernel, by decide +kernel⟩, by decide +kernel, a_in 1004 (by decide +kernel) rfl, a_in 79 (by decide +kernel) rfl⟩
theorem dX4_isLetter_0 : decode M_X4_isLetter.2.1 0 = .ok (.iload_n 0, 1) := by decide +kernel
theorem dX4_isLetter_1 : decode M_X4_isLetter.2.1 1 = .ok (.bipush 98, 2) := by decide +kernel
theorem dX4_isLetter_3 : decode M_X4_isLetter.2.1 3 = .ok (.if_icmp .eq 33, 3) := by decide +kernel
theorem dX4_isLetter_6 : decode M_X4_isLetter.2.1 6 = .ok (.iload_n 0, 1) := by decide +kernel
theorem dX4_isLetter_7 : decode M_X4_isLetter.2.1 7 = .ok (.bipush 103, 2) := by decide +kernel
theorem dX4_isLetter_9 : decode M_X4_isLetter.2.1 9 = .ok (.if_icmp .eq 27, 3) := by decide +kernel
theorem dX4_isLetter_12 : decode M_X4_isLetter.2.1 12 = .ok (.iload_n 0, 1) := by decide +kernel
theorem dX4_isLetter_13 : decode M_X4_isLetter.2.1 13 = .ok (.bipush 112, 2) := by decide +kernel
theorem dX4_isLetter_15 : decode M_X4_isLetter.2.1 15 = .ok (.if_icmp .eq 21, 3) := by decide +kernel
theorem dX4_isLetter_18 : decode M_X4_isLetter.2.1 18 = .ok (.iload_n 0, 1) := by decide +kernel
theorem dX4_isLetter_19 : decode M_X4_isLetter.2.1 19 = .ok (.bipush 99, 2) := by decide +kernel
theorem dX4_isLetter_21 : decode M_X4_isLetter.2.1 21 = .ok (.if_icmp .eq 15, 3) := by decide +kernel
theorem dX4_isLetter_24 : decode M_X4_isLetter.2.1 24 = .ok (.iload_n 0, 1) := by decide +kernel
theorem dX4_isLetter_25 : decode M_X4_isLetter.2.1 25 = .ok (.bipush 117, 2) := by decide +kernel
theorem dX4_isLetter_27 : decode M_X4_isLetter.2.1 27 = .ok (.if_icmp .eq 9, 3) := by decide +kernel
theorem dX4_isLetter_30 : decode M_X4_isLetter.2.1 30 = .ok (.iload_n 0, 1) := by decide +kernel
theorem dX4_isLetter_31 : decode M_X4_isLetter.2.1 31 = .ok (.bipush 100, 2) := by decide +kernel
theorem dX4_isLetter_33 : decode M_X4_isLetter.2.1 33 = .ok (.if_icmp .ne 7, 3) := by decide +kernel
theorem dX4_isLetter_36 : decode M_X4_isLetter.2.1 36 = .ok (.iconst 1, 1) := by decide +kernel
theorem dX4_isLetter_37 : decode M_X4_isLetter.2.1 37 = .ok (.goto 4, 3) := by decide +kernel
theorem dX4_isLetter_40 : decode M_X4_isLetter.2.1 40 = .ok (.iconst 0, 1) := by decide +kernel
theorem dX4_isLetter_41 : decode M_X4_isLetter.2.1 41 = .ok (.ireturn, 1) := by decide +kernel
def f_X4_isLetter (a0 : Int32) (w : aW) : Option (Int32 × aW) :=
  if a0 = (98 : Int32) then
    some ((1 : Int32), w)
  else
    if a0 = (103 : Int32) then
      some ((1 : Int32), w)
    else
      if a0 = (112 : Int32) then
        some ((1 : Int32), w)
      else
        if a0 = (99 : Int32) then
          some ((1 : Int32), w)
        else
          if a0 = (117 : Int32) then
            some ((1 : Int32), w)
          else
            if ¬ a0 = (100 : Int32) then
              some ((0 : Int32), w)
            else
              some ((1 : Int32), w)
theorem s_X4_isLetter (a0 : Int32) (w : aW) : Sp rvI M_X4_isLetter [.int a0] w (f_X4_isLetter a0 w) := by
  refine e_entry [some (.int a0)] (by decide +kernel) (Nat.le_of_ble_eq_true rfl) (fun _ => rfl) ?_
  unfold f_X4_isLetter
  refine e_iload_n (pc := 0) dX4_isLetter_0 rfl rfl ?_
  refine e_bipush (pc := 1) dX4_isLetter_1 kb_98 ?_
  refine e_icmp_eq (pc := 3) (tgt := 36) dX4_isLetter_3 (by decide) (fun _ => ?_) (fun _ => ?_)
  · refine e_iconst (pc := 36) dX4_isLetter_36 kc_1 ?_
    refine e_goto (pc := 37) (tgt := 41) dX4_isLetter_37 (by decide) ?_
    exact e_iret (pc := 41) dX4_isLetter_41 rfl (a_nb (by decide))
  · refine e_iload_n (pc := 6) dX4_isLetter_6 rfl rfl ?_
    refine e_bipush (pc := 7) dX4_isLetter_7 kb_103 ?_
    refine e_icmp_eq (pc := 9) (tgt := 36) dX4_isLetter_9 (by decide) (fun _ => ?_) (fun _ => ?_)
    · refine e_iconst (pc := 36) dX4_isLetter_36 kc_1 ?_
      refine e_goto (pc := 37) (tgt := 41) dX4_isLetter_37 (by decide) ?_
      exact e_iret (pc := 41) dX4_isLetter_41 rfl (a_nb (by decide))
    · refine e_iload_n (pc := 12) dX4_isLetter_12 rfl rfl ?_
      refine e_bipush (pc := 13) dX4_isLetter_13 kb_112 ?_
      refine e_icmp_eq (pc := 15) (tgt := 36) dX4_isLetter_15 (by decide) (fun _ => ?_) (fun _ => ?_)
      · refine e_iconst (pc := 36) dX4_isLetter_36 kc_1 ?_
        refine e_goto (pc := 37) (tgt := 41) dX4_isLetter_37 (by decide) ?_
        exact e_iret (pc := 41) dX4_isLetter_41 rfl (a_nb (by decide))
      · refine e_iload_n (pc := 18) dX4_isLetter_18 rfl rfl ?_
        refine e_bipush (pc := 19) dX4_isLetter_19 kb_99 ?_
        refine e_icmp_eq (pc := 21) (tgt := 36) dX4_isLetter_21 (by decide) (fun _ => ?_) (fun _ => ?_)
        · refine e_iconst (pc := 36) dX4_isLetter_36 kc_1 ?_
          refine e_goto (pc := 37) (tgt := 41) dX4_isLetter_37 (by decide) ?_
          exact e_iret (pc := 41) dX4_isLetter_41 rfl (a_nb (by decide))
        · refine e_iload_n (pc := 24) dX4_isLetter_24 rfl rfl ?_
          refine e_bipush (pc := 25) dX4_isLetter_25 kb_117 ?_
          refine e_icmp_eq (pc := 27) (tgt := 36) dX4_isLetter_27 (by decide) (fun _ => ?_) (fun _ => ?_)
          · refine e_iconst (pc := 36) dX4_isLetter_36 kc_1 ?_
            refine e_goto (pc := 37) (tgt := 41) dX4_isLetter_37 (by decide) ?_
            exact e_iret (pc := 41) dX4_isLetter_41 rfl (a_nb (by decide))
          · refine e_iload_n (pc := 30) dX4_isLetter_30 rfl rfl ?_
            refine e_bipush (pc := 31) dX4_isLetter_31 kb_100 ?_
            refine e_icmp_ne (pc := 33) (tgt := 40) dX4_isLetter_33 (by decide) (fun _ => ?_) (fun _ => ?_)
            · refine e_iconst (pc := 40) dX4_isLetter_40 kc_0 ?_
              exact e_iret (pc := 41) dX4_isLetter_41 rfl (a_nb (by decide))
            · refine e_iconst (pc := 36) dX4_isLetter_36 kc_1 ?_
              refine e_goto (pc := 37) (tgt := 41) dX4_isLetter_37 (by decide) ?_
              exact e_iret (pc := 41) dX4_isLetter_41 rfl (a_nb (by decide))
def M_X4_readNumbers : aM := (yX4_readNumbers, cX4_readNumbers, 3, none, 2, 48)
theorem ok_X4_readNumbers : a_okM M_X4_readNumbers 2 := ⟨⟨by decide +kernel, by decide +kernel⟩, by decide +kernel, a_in 1008 (by decide +kernel) rfl, a_in 79 (by decide +kernel) rfl⟩
theorem dX4_readNumbers_0 : decode M_X4_readNumbers.2.1 0 = .ok (.aload_n 0, 1) := by decide +kernel
theorem dX4_readNumbers_1 : decode M_X4_readNumbers.2.1 1 = .ok (.getfield 62, 3) := by decide +kernel
theorem dX4_readNumbers_4 : decode M_X4_readNumbers.2.1 4 = .ok (.iload_n 2, 1) := by decide +kernel
theorem dX4_readNumbers_5 : decode M_X4_readNumbers.2.1 5 = .ok (.aload_n 0, 1) := by decide +kernel
theorem dX4_readNumbers_6 : decode M_X4_readNumbers.2.1 6 = .ok (.iload_n 1, 1) := by decide +kernel
theorem dX4_readNumbers_7 : decode M_X4_readNumbers.2.1 7 = .ok (.bipush 100, 2) := by decide +kernel
theorem dX4_readNumbers_9 : decode M_X4_readNumbers.2.1 9 = .ok (.if_icmp .ne 7, 3) := by decide +kernel
theorem dX4_readNumbers_12 : decode M_X4_readNumbers.2.1 12 = .ok (.iconst 2, 1) := by decide +kernel
theorem dX4_readNumbers_13 : decode M_X4_readNumbers.2.1 13 = .ok (.goto 4, 3) := by decide +kernel
theorem dX4_readNumbers_16 : decode M_X4_readNumbers.2.1 16 = .ok (.iconst 1, 1) := by decide +kernel
theorem dX4_readNumbers_17 : decode M_X4_readNumbers.2.1 17 = .ok (.invokevirtual 169, 3) := by decide +kernel
theorem dX4_readNumbers_20 : decode M_X4_readNumbers.2.1 20 = .ok (.iastore, 1) := by decide +kernel
theorem dX4_readNumbers_21 : decode M_X4_readNumbers.2.1 21 = .ok (.iload_n 1, 1) := by decide +kernel
theorem dX4_readNumbers_22 : decode M_X4_readNumbers.2.1 22 = .ok (.bipush 98, 2) := by decide +kernel
theorem dX4_readNumbers_24 : decode M_X4_readNumbers.2.1 24 = .ok (.if_icmp .eq 15, 3) := by decide +kernel
theorem dX4_readNumbers_27 : decode M_X4_readNumbers.2.1 27 = .ok (.iload_n 1, 1) := by decide +kernel
theorem dX4_readNumbers_28 : decode M_X4_readNumbers.2.1 28 = .ok (.bipush 112, 2) := by decide +kernel
theorem dX4_readNumbers_30 : decode M_X4_readNumbers.2.1 30 = .ok (.if_icmp .eq 9, 3) := by decide +kernel
theorem dX4_readNumbers_33 : decode M_X4_readNumbers.2.1 33 = .ok (.iload_n 1, 1) := by decide +kernel
theorem dX4_readNumbers_34 : decode M_X4_readNumbers.2.1 34 = .ok (.bipush 99, 2) := by decide +kernel
theorem dX4_readNumbers_36 : decode M_X4_readNumbers.2.1 36 = .ok (.if_icmp .ne 16, 3) := by decide +kernel
theorem dX4_readNumbers_39 : decode M_X4_readNumbers.2.1 39 = .ok (.aload_n 0, 1) := by decide +kernel
theorem dX4_readNumbers_40 : decode M_X4_readNumbers.2.1 40 = .ok (.getfield 62, 3) := by decide +kernel
theorem dX4_readNumbers_43 : decode M_X4_readNumbers.2.1 43 = .ok (.iload_n 2, 1) := by decide +kernel
theorem dX4_readNumbers_44 : decode M_X4_readNumbers.2.1 44 = .ok (.iconst 1, 1) := by decide +kernel
theorem dX4_readNumbers_45 : decode M_X4_readNumbers.2.1 45 = .ok (.iadd, 1) := by decide +kernel
theorem dX4_readNumbers_46 : decode M_X4_readNumbers.2.1 46 = .ok (.aload_n 0, 1) := by decide +kernel
theorem dX4_readNumbers_47 : decode M_X4_readNumbers.2.1 47 = .ok (.iconst 1, 1) := by decide +kernel
theorem dX4_readNumbers_48 : decode M_X4_readNumbers.2.1 48 = .ok (.invokevirtual 169, 3) := by decide +kernel
theorem dX4_readNumbers_51 : decode M_X4_readNumbers.2.1 51 = .ok (.iastore, 1) := by decide +kernel
theorem dX4_readNumbers_52 : decode M_X4_readNumbers.2.1 52 = .ok (.iload_n 1, 1) := by decide +kernel
theorem dX4_readNumbers_53 : decode M_X4_readNumbers.2.1 53 = .ok (.bipush 98, 2) := by decide +kernel
theorem dX4_readNumbers_55 : decode M_X4_readNumbers.2.1 55 = .ok (.if_icmp .eq 15, 3) := by decide +kernel
theorem dX4_readNumbers_58 : decode M_X4_readNumbers.2.1 58 = .ok (.iload_n 1, 1) := by decide +kernel
theorem dX4_readNumbers_59 : decode M_X4_readNumbers.2.1 59 = .ok (.bipush 112, 2) := by decide +kernel
theorem dX4_readNumbers_61 : decode M_X4_readNumbers.2.1 61 = .ok (.if_icmp .eq 9, 3) := by decide +kernel
theorem dX4_readNumbers_64 : decode M_X4_readNumbers.2.1 64 = .ok (.iload_n 1, 1) := by decide +kernel
theorem dX4_readNumbers_65 : decode M_X4_readNumbers.2.1 65 = .ok (.bipush 103, 2) := by decide +kernel
theorem dX4_readNumbers_67 : decode M_X4_readNumbers.2.1 67 = .ok (.if_icmp .ne 16, 3) := by decide +kernel
theorem dX4_readNumbers_70 : decode M_X4_readNumbers.2.1 70 = .ok (.aload_n 0, 1) := by decide +kernel
theorem dX4_readNumbers_71 : decode M_X4_readNumbers.2.1 71 = .ok (.getfield 62, 3) := by decide +kernel
theorem dX4_readNumbers_74 : decode M_X4_readNumbers.2.1 74 = .ok (.iload_n 2, 1) := by decide +kernel
theorem dX4_readNumbers_75 : decode M_X4_readNumbers.2.1 75 = .ok (.iconst 2, 1) := by decide +kernel
theorem dX4_readNumbers_76 : decode M_X4_readNumbers.2.1 76 = .ok (.iadd, 1) := by decide +kernel
theorem dX4_readNumbers_77 : decode M_X4_readNumbers.2.1 77 = .ok (.aload_n 0, 1) := by decide +kernel
theorem dX4_readNumbers_78 : decode M_X4_readNumbers.2.1 78 = .ok (.iconst 2, 1) := by decide +kernel
theorem dX4_readNumbers_79 : decode M_X4_readNumbers.2.1 79 = .ok (.invokevirtual 169, 3) := by decide +kernel
theorem dX4_readNumbers_82 : decode M_X4_readNumbers.2.1 82 = .ok (.iastore, 1) := by decide +kernel
theorem dX4_readNumbers_83 : decode M_X4_readNumbers.2.1 83 = .ok (.iload_n 1, 1) := by decide +kernel
theorem dX4_readNumbers_84 : decode M_X4_readNumbers.2.1 84 = .ok (.bipush 112, 2) := by decide +kernel
theorem dX4_readNumbers_86 : decode M_X4_readNumbers.2.1 86 = .ok (.if_icmp .ne 16, 3) := by decide +kernel
theorem dX4_readNumbers_89 : decode M_X4_readNumbers.2.1 89 = .ok (.aload_n 0, 1) := by decide +kernel
theorem dX4_readNumbers_90 : decode M_X4_readNumbers.2.1 90 = .ok (.getfield 62, 3) := by decide +kernel
theorem dX4_readNumbers_93 : decode M_X4_readNumbers.2.1 93 = .ok (.iload_n 2, 1) := by decide +kernel
theorem dX4_readNumbers_94 : decode M_X4_readNumbers.2.1 94 = .ok (.iconst 3, 1) := by decide +kernel
theorem dX4_readNumbers_95 : decode M_X4_readNumbers.2.1 95 = .ok (.iadd, 1) := by decide +kernel
theorem dX4_readNumbers_96 : decode M_X4_readNumbers.2.1 96 = .ok (.aload_n 0, 1) := by decide +kernel
theorem dX4_readNumbers_97 : decode M_X4_readNumbers.2.1 97 = .ok (.iconst 3, 1) := by decide +kernel
theorem dX4_readNumbers_98 : decode M_X4_readNumbers.2.1 98 = .ok (.invokevirtual 169, 3) := by decide +kernel
theorem dX4_readNumbers_101 : decode M_X4_readNumbers.2.1 101 = .ok (.iastore, 1) := by decide +kernel
theorem dX4_readNumbers_102 : decode M_X4_readNumbers.2.1 102 = .ok (.return_, 1) := by decide +kernel
theorem hs_X4_62 : a_fs RX4 62 3 26 := ⟨RX4, TX4, 37, rfl, tin_X4, by decide, a_in 891 (by decide +kernel) rfl⟩
theorem hv_X4_169 : a_okV RX4 M_X4_readDigits 169 := ⟨a_in 1009 (by decide +kernel) rfl, a_in 1011 (by decide +kernel) rfl, a_in 26 (by decide +kernel) rfl⟩
def c_X4_readNumbers_83 (a0 : Nat) (a1 : Int32) (a2 : Int32) (w : aW) : Option (Unit × aW) :=
  if ¬ a1 = (112 : Int32) then
    some ((), w)
  else
    (gR 3 w a0 26).bind fun r13 =>
    cV 3 w a0 (bk (f_X4_readDigits a0 (3 : Int32) w) fun x15 w14 =>
    (sA w14 r13 (a2 + (3 : Int32)) x15).bind fun w16 =>
    some ((), w16))
theorem t_X4_readNumbers_83 (a0 : Nat) (a1 : Int32) (a2 : Int32) (w : aW) : Ev rvV M_X4_readNumbers 83 [some (.ref a0), some (.int a1), some (.int a2)] [] w (c_X4_readNumbers_83 a0 a1 a2 w) := by
  unfold c_X4_readNumbers_83
  refine e_iload_n (pc := 83) dX4_readNumbers_83 rfl rfl ?_
  refine e_bipush (pc := 84) dX4_readNumbers_84 kb_112 ?_
  refine e_icmp_ne (pc := 86) (tgt := 102) dX4_readNumbers_86 (by decide) (fun _ => ?_) (fun _ => ?_)
  · exact e_vret (pc := 102) dX4_readNumbers_102 rfl
  · refine e_aload_n (pc := 89) dX4_readNumbers_89 rfl rfl ?_
    refine e_getR (pc := 90) dX4_readNumbers_90 hs_X4_62 (fun r13 => ?_)
    refine e_iload_n (pc := 93) dX4_readNumbers_93 rfl rfl ?_
    refine e_iconst (pc := 94) dX4_readNumbers_94 kc_3 ?_
    refine e_iadd (pc := 95) dX4_readNumbers_95 ?_
    refine e_aload_n (pc := 96) dX4_readNumbers_96 rfl rfl ?_
    refine e_iconst (pc := 97) dX4_readNumbers_97 kc_3 ?_
    refine e_callV (pc := 98) (av := [.int (3 : Int32)]) (S := [.int (a2 + (3 : Int32)), .ref r13]) (c0 := 3) rfl rfl ok_X4_readDigits ⟨Nat.le_of_ble_eq_true rfl, Nat.le_of_ble_eq_true rfl⟩ hv_X4_169 dX4_readNumbers_98 (s_X4_readDigits a0 (3 : Int32) w) rfl rfl (Nat.le_of_ble_eq_true rfl) (fun x15 w14 => ?_)
    refine e_iast (pc := 101) dX4_readNumbers_101 (fun w16 => ?_)
    exact e_vret (pc := 102) dX4_readNumbers_102 rfl
def c_X4_readNumbers_70 (a0 : Nat) (a1 : Int32) (a2 : Int32) (w : aW) : Option (Unit × aW) :=
  (gR 3 w a0 26).bind fun r9 =>
  cV 3 w a0 (bk (f_X4_readDigits a0 (2 : Int32) w) fun x11 w10 =>
  (sA w10 r9 (a2 + (2 : Int32)) x11).bind fun w12 =>
  c_X4_readNumbers_83 a0 a1 a2 w12)
theorem t_X4_readNumbers_70 (a0 : Nat) (a1 : Int32) (a2 : Int32) (w : aW) : Ev rvV M_X4_readNumbers 70 [some (.ref a0), some (.int a1), some (.int a2)] [] w (c_X4_readNumbers_70 a0 a1 a2 w) := by
  unfold c_X4_readNumbers_70
  refine e_aload_n (pc := 70) dX4_readNumbers_70 rfl rfl ?_
  refine e_getR (pc := 71) dX4_readNumbers_71 hs_X4_62 (fun r9 => ?_)
  refine e_iload_n (pc := 74) dX4_readNumbers_74 rfl rfl ?_
  refine e_iconst (pc := 75) dX4_readNumbers_75 kc_2 ?_
  refine e_iadd (pc := 76) dX4_readNumbers_76 ?_
  refine e_aload_n (pc := 77) dX4_readNumbers_77 rfl rfl ?_
  refine e_iconst (pc := 78) dX4_readNumbers_78 kc_2 ?_
  refine e_callV (pc := 79) (av := [.int (2 : Int32)]) (S := [.int (a2 + (2 : Int32)), .ref r9]) (c0 := 3) rfl rfl ok_X4_readDigits ⟨Nat.le_of_ble_eq_true rfl, Nat.le_of_ble_eq_true rfl⟩ hv_X4_169 dX4_readNumbers_79 (s_X4_readDigits a0 (2 : Int32) w) rfl rfl (Nat.le_of_ble_eq_true rfl) (fun x11 w10 => ?_)
  refine e_iast (pc := 82) dX4_readNumbers_82 (fun w12 => ?_)
  exact t_X4_readNumbers_83 a0 a1 a2 w12
def c_X4_readNumbers_52 (a0 : Nat) (a1 : Int32) (a2 : Int32) (w : aW) : Option (Unit × aW) :=
  if a1 = (98 : Int32) then
    c_X4_readNumbers_70 a0 a1 a2 w
  else
    if a1 = (112 : Int32) then
      c_X4_readNumbers_70 a0 a1 a2 w
    else
      if ¬ a1 = (103 : Int32) then
        c_X4_readNumbers_83 a0 a1 a2 w
      else
        c_X4_readNumbers_70 a0 a1 a2 w
theorem t_X4_readNumbers_52 (a0 : Nat) (a1 : Int32) (a2 : Int32) (w : aW) : Ev rvV M_X4_readNumbers 52 [some (.ref a0), some (.int a1), some (.int a2)] [] w (c_X4_readNumbers_52 a0 a1 a2 w) := by
  unfold c_X4_readNumbers_52
  refine e_iload_n (pc := 52) dX4_readNumbers_52 rfl rfl ?_
  refine e_bipush (pc := 53) dX4_readNumbers_53 kb_98 ?_
  refine e_icmp_eq (pc := 55) (tgt := 70) dX4_readNumbers_55 (by decide) (fun _ => ?_) (fun _ => ?_)
  · exact t_X4_readNumbers_70 a0 a1 a2 w
  · refine e_iload_n (pc := 58) dX4_readNumbers_58 rfl rfl ?_
    refine e_bipush (pc := 59) dX4_readNumbers_59 kb_112 ?_
    refine e_icmp_eq (pc := 61) (tgt := 70) dX4_readNumbers_61 (by decide) (fun _ => ?_) (fun _ => ?_)
    · exact t_X4_readNumbers_70 a0 a1 a2 w
    · refine e_iload_n (pc := 64) dX4_readNumbers_64 rfl rfl ?_
      refine e_bipush (pc := 65) dX4_readNumbers_65 kb_103 ?_
      refine e_icmp_ne (pc := 67) (tgt := 83) dX4_readNumbers_67 (by decide) (fun _ => ?_) (fun _ => ?_)
      · exact t_X4_readNumbers_83 a0 a1 a2 w
      · exact t_X4_readNumbers_70 a0 a1 a2 w
def c_X4_readNumbers_39 (a0 : Nat) (a1 : Int32) (a2 : Int32) (w : aW) : Option (Unit × aW) :=
  (gR 3 w a0 26).bind fun r5 =>
  cV 3 w a0 (bk (f_X4_readDigits a0 (1 : Int32) w) fun x7 w6 =>
  (sA w6 r5 (a2 + (1 : Int32)) x7).bind fun w8 =>
  c_X4_readNumbers_52 a0 a1 a2 w8)
theorem t_X4_readNumbers_39 (a0 : Nat) (a1 : Int32) (a2 : Int32) (w : aW) : Ev rvV M_X4_readNumbers 39 [some (.ref a0), some (.int a1), some (.int a2)] [] w (c_X4_readNumbers_39 a0 a1 a2 w) := by
  unfold c_X4_readNumbers_39
  refine e_aload_n (pc := 39) dX4_readNumbers_39 rfl rfl ?_
  refine e_getR (pc := 40) dX4_readNumbers_40 hs_X4_62 (fun r5 => ?_)
  refine e_iload_n (pc := 43) dX4_readNumbers_43 rfl rfl ?_
  refine e_iconst (pc := 44) dX4_readNumbers_44 kc_1 ?_
  refine e_iadd (pc := 45) dX4_readNumbers_45 ?_
  refine e_aload_n (pc := 46) dX4_readNumbers_46 rfl rfl ?_
  refine e_iconst (pc := 47) dX4_readNumbers_47 kc_1 ?_
  refine e_callV (pc := 48) (av := [.int (1 : Int32)]) (S := [.int (a2 + (1 : Int32)), .ref r5]) (c0 := 3) rfl rfl ok_X4_readDigits ⟨Nat.le_of_ble_eq_true rfl, Nat.le_of_ble_eq_true rfl⟩ hv_X4_169 dX4_readNumbers_48 (s_X4_readDigits a0 (1 : Int32) w) rfl rfl (Nat.le_of_ble_eq_true rfl) (fun x7 w6 => ?_)
  refine e_iast (pc := 51) dX4_readNumbers_51 (fun w8 => ?_)
  exact t_X4_readNumbers_52 a0 a1 a2 w8
def c_X4_readNumbers_17 (a0 : Nat) (a1 : Int32) (a2 : Int32) (s0 : Int32) (s1 : Nat) (s2 : Int32) (s3 : Nat) (w : aW) : Option (Unit × aW) :=
  cV 3 w s1 (bk (f_X4_readDigits s1 s0 w) fun x3 w2 =>
  (sA w2 s3 s2 x3).bind fun w4 =>
  if a1 = (98 : Int32) then
    c_X4_readNumbers_39 a0 a1 a2 w4
  else
    if a1 = (112 : Int32) then
      c_X4_readNumbers_39 a0 a1 a2 w4
    else
      if ¬ a1 = (99 : Int32) then
        c_X4_readNumbers_52 a0 a1 a2 w4
      else
        c_X4_readNumbers_39 a0 a1 a2 w4)
theorem t_X4_readNumbers_17 (a0 : Nat) (a1 : Int32) (a2 : Int32) (s0 : Int32) (s1 : Nat) (s2 : Int32) (s3 : Nat) (w : aW) : Ev rvV M_X4_readNumbers 17 [some (.ref a0), some (.int a1), some (.int a2)] [.int s0, .ref s1, .int s2, .ref s3] w (c_X4_readNumbers_17 a0 a1 a2 s0 s1 s2 s3 w) := by
  unfold c_X4_readNumbers_17
  refine e_callV (pc := 17) (av := [.int s0]) (S := [.int s2, .ref s3]) (c0 := 3) rfl rfl ok_X4_readDigits ⟨Nat.le_of_ble_eq_true rfl, Nat.le_of_ble_eq_true rfl⟩ hv_X4_169 dX4_readNumbers_17 (s_X4_readDigits s1 s0 w) rfl rfl (Nat.le_of_ble_eq_true rfl) (fun x3 w2 => ?_)
  refine e_iast (pc := 20) dX4_readNumbers_20 (fun w4 => ?_)
  refine e_iload_n (pc := 21) dX4_readNumbers_21 rfl rfl ?_
  refine e_bipush (pc := 22) dX4_readNumbers_22 kb_98 ?_
  refine e_icmp_eq (pc := 24) (tgt := 39) dX4_readNumbers_24 (by decide) (fun _ => ?_) (fun _ => ?_)
  · exact t_X4_readNumbers_39 a0 a1 a2 w4
  · refine e_iload_n (pc := 27) dX4_readNumbers_27 rfl rfl ?_
    refine e_bipush (pc := 28) dX4_readNumbers_28 kb_112 ?_
    refine e_icmp_eq (pc := 30) (tgt := 39) dX4_readNumbers_30 (by decide) (fun _ => ?_) (fun _ => ?_)
    · exact t_X4_readNumbers_39 a0 a1 a2 w4
    · refine e_iload_n (pc := 33) dX4_readNumbers_33 rfl rfl ?_
      refine e_bipush (pc := 34) dX4_readNumbers_34 kb_99 ?_
      refine e_icmp_ne (pc := 36) (tgt := 52) dX4_readNumbers_36 (by decide) (fun _ => ?_) (fun _ => ?_)
      · exact t_X4_readNumbers_52 a0 a1 a2 w4
      · exact t_X4_readNumbers_39 a0 a1 a2 w4
def f_X4_readNumbers (a0 : Nat) (a1 : Int32) (a2 : Int32) (w : aW) : Option (Unit × aW) :=
  (gR 3 w a0 26).bind fun r1 =>
  if ¬ a1 = (100 : Int32) then
    c_X4_readNumbers_17 a0 a1 a2 (1 : Int32) a0 a2 r1 w
  else
    c_X4_readNumbers_17 a0 a1 a2 (2 : Int32) a0 a2 r1 w
theorem s_X4_readNumbers (a0 : Nat) (a1 : Int32) (a2 : Int32) (w : aW) : Sp rvV M_X4_readNumbers [.ref a0, .int a1, .int a2] w (f_X4_readNumbers a0 a1 a2 w) := by
  refine e_entry [some (.ref a0), some (.int a1), some (.int a2)] (by decide +kernel) (Nat.le_of_ble_eq_true rfl) (fun _ => rfl) ?_
  unfold f_X4_readNumbers
  refine e_aload_n (pc := 0) dX4_readNumbers_0 rfl rfl ?_
  refine e_getR (pc := 1) dX4_readNumbers_1 hs_X4_62 (fun r1 => ?_)
  refine e_iload_n (pc := 4) dX4_readNumbers_4 rfl rfl ?_
  refine e_aload_n (pc := 5) dX4_readNumbers_5 rfl rfl ?_
  refine e_iload_n (pc := 6) dX4_readNumbers_6 rfl rfl ?_
  refine e_bipush (pc := 7) dX4_readNumbers_7 kb_100 ?_
  refine e_icmp_ne (pc := 9) (tgt := 16) dX4_readNumbers_9 (by decide) (fun _ => ?_) (fun _ => ?_)
  · refine e_iconst (pc := 16) dX4_readNumbers_16 kc_1 ?_
    exact t_X4_readNumbers_17 a0 a1 a2 (1 : Int32) a0 a2 r1 w
  · refine e_iconst (pc := 12) dX4_readNumbers_12 kc_2 ?_
    refine e_goto (pc := 13) (tgt := 17) dX4_readNumbers_13 (by decide) ?_
    exact t_X4_readNumbers_17 a0 a1 a2 (2 : Int32) a0 a2 r1 w
