/-! the decompiled methods: each f_ is what its bytecode does to a world; each s_ ties it to the machine. Written by program (wip/gen/gen.py). -/
def M_X4_stand : aM := (yX4_stand, cX4_stand, 8, (some .int), 7, 158)
theorem ok_X4_stand : a_okM M_X4_stand 3 := ⟨⟨by decide +kernel, by decide +kernel⟩, by decide +kernel, a_in 1284 (by decide +kernel) rfl, a_in 79 (by decide +kernel) rfl⟩
theorem dX4_stand_0 : decode M_X4_stand.2.1 0 = .ok (.aload_n 0, 1) := by decide +kernel
theorem dX4_stand_1 : decode M_X4_stand.2.1 1 = .ok (.iconst 0, 1) := by decide +kernel
theorem dX4_stand_2 : decode M_X4_stand.2.1 2 = .ok (.putfield 80, 3) := by decide +kernel
theorem dX4_stand_5 : decode M_X4_stand.2.1 5 = .ok (.iload_n 1, 1) := by decide +kernel
theorem dX4_stand_6 : decode M_X4_stand.2.1 6 = .ok (.invokestatic 188, 3) := by decide +kernel
theorem dX4_stand_9 : decode M_X4_stand.2.1 9 = .ok (.ifCond .eq 25, 3) := by decide +kernel
theorem dX4_stand_12 : decode M_X4_stand.2.1 12 = .ok (.iload_n 2, 1) := by decide +kernel
theorem dX4_stand_13 : decode M_X4_stand.2.1 13 = .ok (.i2l, 1) := by decide +kernel
theorem dX4_stand_14 : decode M_X4_stand.2.1 14 = .ok (.lconst 0, 1) := by decide +kernel
theorem dX4_stand_15 : decode M_X4_stand.2.1 15 = .ok (.ldc2_w 310, 3) := by decide +kernel
theorem dX4_stand_18 : decode M_X4_stand.2.1 18 = .ok (.invokestatic 86, 3) := by decide +kernel
theorem dX4_stand_21 : decode M_X4_stand.2.1 21 = .ok (.ifCond .eq 13, 3) := by decide +kernel
theorem dX4_stand_24 : decode M_X4_stand.2.1 24 = .ok (.iload_n 3, 1) := by decide +kernel
theorem dX4_stand_25 : decode M_X4_stand.2.1 25 = .ok (.i2l, 1) := by decide +kernel
theorem dX4_stand_26 : decode M_X4_stand.2.1 26 = .ok (.lconst 0, 1) := by decide +kernel
theorem dX4_stand_27 : decode M_X4_stand.2.1 27 = .ok (.lconst 1, 1) := by decide +kernel
theorem dX4_stand_28 : decode M_X4_stand.2.1 28 = .ok (.invokestatic 86, 3) := by decide +kernel
theorem dX4_stand_31 : decode M_X4_stand.2.1 31 = .ok (.ifCond .ne 5, 3) := by decide +kernel
theorem dX4_stand_34 : decode M_X4_stand.2.1 34 = .ok (.iconst (-1), 1) := by decide +kernel
theorem dX4_stand_35 : decode M_X4_stand.2.1 35 = .ok (.ireturn, 1) := by decide +kernel
theorem dX4_stand_36 : decode M_X4_stand.2.1 36 = .ok (.iconst 0, 1) := by decide +kernel
theorem dX4_stand_37 : decode M_X4_stand.2.1 37 = .ok (.istore 4, 2) := by decide +kernel
theorem dX4_stand_39 : decode M_X4_stand.2.1 39 = .ok (.iconst (-1), 1) := by decide +kernel
theorem dX4_stand_40 : decode M_X4_stand.2.1 40 = .ok (.istore 5, 2) := by decide +kernel
theorem dX4_stand_42 : decode M_X4_stand.2.1 42 = .ok (.aload_n 0, 1) := by decide +kernel
theorem dX4_stand_43 : decode M_X4_stand.2.1 43 = .ok (.invokevirtual 221, 3) := by decide +kernel
theorem dX4_stand_46 : decode M_X4_stand.2.1 46 = .ok (.iconst 0, 1) := by decide +kernel
theorem dX4_stand_47 : decode M_X4_stand.2.1 47 = .ok (.istore 6, 2) := by decide +kernel
theorem dX4_stand_49 : decode M_X4_stand.2.1 49 = .ok (.iload 6, 2) := by decide +kernel
theorem dX4_stand_51 : decode M_X4_stand.2.1 51 = .ok (.bipush 16, 2) := by decide +kernel
theorem dX4_stand_53 : decode M_X4_stand.2.1 53 = .ok (.if_icmp .ge 57, 3) := by decide +kernel
theorem dX4_stand_56 : decode M_X4_stand.2.1 56 = .ok (.aload_n 0, 1) := by decide +kernel
theorem dX4_stand_57 : decode M_X4_stand.2.1 57 = .ok (.getfield 28, 3) := by decide +kernel
theorem dX4_stand_60 : decode M_X4_stand.2.1 60 = .ok (.iload_n 1, 1) := by decide +kernel
theorem dX4_stand_61 : decode M_X4_stand.2.1 61 = .ok (.iload 6, 2) := by decide +kernel
theorem dX4_stand_63 : decode M_X4_stand.2.1 63 = .ok (.iastore, 1) := by decide +kernel
theorem dX4_stand_64 : decode M_X4_stand.2.1 64 = .ok (.aload_n 0, 1) := by decide +kernel
theorem dX4_stand_65 : decode M_X4_stand.2.1 65 = .ok (.iload_n 1, 1) := by decide +kernel
theorem dX4_stand_66 : decode M_X4_stand.2.1 66 = .ok (.iload_n 2, 1) := by decide +kernel
theorem dX4_stand_67 : decode M_X4_stand.2.1 67 = .ok (.invokevirtual 296, 3) := by decide +kernel
theorem dX4_stand_70 : decode M_X4_stand.2.1 70 = .ok (.istore 7, 2) := by decide +kernel
theorem dX4_stand_72 : decode M_X4_stand.2.1 72 = .ok (.iload 7, 2) := by decide +kernel
theorem dX4_stand_74 : decode M_X4_stand.2.1 74 = .ok (.iload 5, 2) := by decide +kernel
theorem dX4_stand_76 : decode M_X4_stand.2.1 76 = .ok (.if_icmp .le 8, 3) := by decide +kernel
theorem dX4_stand_79 : decode M_X4_stand.2.1 79 = .ok (.iload 6, 2) := by decide +kernel
theorem dX4_stand_81 : decode M_X4_stand.2.1 81 = .ok (.goto 5, 3) := by decide +kernel
theorem dX4_stand_84 : decode M_X4_stand.2.1 84 = .ok (.iload 4, 2) := by decide +kernel
theorem dX4_stand_86 : decode M_X4_stand.2.1 86 = .ok (.istore 4, 2) := by decide +kernel
theorem dX4_stand_88 : decode M_X4_stand.2.1 88 = .ok (.iload 7, 2) := by decide +kernel
theorem dX4_stand_90 : decode M_X4_stand.2.1 90 = .ok (.iload 5, 2) := by decide +kernel
theorem dX4_stand_92 : decode M_X4_stand.2.1 92 = .ok (.if_icmp .le 8, 3) := by decide +kernel
theorem dX4_stand_95 : decode M_X4_stand.2.1 95 = .ok (.iload 7, 2) := by decide +kernel
theorem dX4_stand_97 : decode M_X4_stand.2.1 97 = .ok (.goto 5, 3) := by decide +kernel
theorem dX4_stand_100 : decode M_X4_stand.2.1 100 = .ok (.iload 5, 2) := by decide +kernel
theorem dX4_stand_102 : decode M_X4_stand.2.1 102 = .ok (.istore 5, 2) := by decide +kernel
theorem dX4_stand_104 : decode M_X4_stand.2.1 104 = .ok (.iinc 6 1, 3) := by decide +kernel
theorem dX4_stand_107 : decode M_X4_stand.2.1 107 = .ok (.goto (-58), 3) := by decide +kernel
theorem dX4_stand_110 : decode M_X4_stand.2.1 110 = .ok (.iload_n 3, 1) := by decide +kernel
theorem dX4_stand_111 : decode M_X4_stand.2.1 111 = .ok (.ifCond .ne 8, 3) := by decide +kernel
theorem dX4_stand_114 : decode M_X4_stand.2.1 114 = .ok (.iload 4, 2) := by decide +kernel
theorem dX4_stand_116 : decode M_X4_stand.2.1 116 = .ok (.goto 5, 3) := by decide +kernel
theorem dX4_stand_119 : decode M_X4_stand.2.1 119 = .ok (.iload 5, 2) := by decide +kernel
theorem dX4_stand_121 : decode M_X4_stand.2.1 121 = .ok (.ireturn, 1) := by decide +kernel
def c_X4_stand_86 (a0 : Nat) (a1 : Int32) (a2 : Int32) (a3 : Int32) (k49 : Int32 → Int32 → Int32 → aW → Option (Int32 × aW)) (b5 : Int32) (b6 : Int32) (b7 : Int32) (s0 : Int32) (w : aW) : Option (Int32 × aW) :=
  if b7 ≤ b5 then
    k49 s0 b5 (b6 + 1) w
  else
    k49 s0 b7 (b6 + 1) w
theorem t_X4_stand_86 (a0 : Nat) (a1 : Int32) (a2 : Int32) (a3 : Int32) (k49 : Int32 → Int32 → Int32 → aW → Option (Int32 × aW)) (hk49 : ∀ (b4 : Int32) (b5 : Int32) (b6 : Int32) (w : aW), Ev rvI M_X4_stand 49 [some (.ref a0), some (.int a1), some (.int a2), some (.int a3), some (.int b4), some (.int b5), some (.int b6), none] [] w (k49 b4 b5 b6 w)) (b5 : Int32) (b6 : Int32) (b7 : Int32) (s0 : Int32) (w : aW) : Ev rvI M_X4_stand 86 [some (.ref a0), some (.int a1), some (.int a2), some (.int a3), none, some (.int b5), some (.int b6), some (.int b7)] [.int s0] w (c_X4_stand_86 a0 a1 a2 a3 k49 b5 b6 b7 s0 w) := by
  unfold c_X4_stand_86
  refine e_istore (L' := [some (.ref a0), some (.int a1), some (.int a2), some (.int a3), some (.int s0), some (.int b5), some (.int b6), some (.int b7)]) (pc := 86) dX4_stand_86 (by decide) rfl ?_
  refine e_iload (pc := 88) dX4_stand_88 rfl ?_
  refine e_iload (pc := 90) dX4_stand_90 rfl ?_
  refine e_icmp_le (pc := 92) (tgt := 100) dX4_stand_92 (by decide) (fun _ => ?_) (fun _ => ?_)
  · refine e_iload (pc := 100) dX4_stand_100 rfl ?_
    refine e_istore (L' := [some (.ref a0), some (.int a1), some (.int a2), some (.int a3), some (.int s0), some (.int b5), some (.int b6), some (.int b7)]) (pc := 102) dX4_stand_102 (by decide) rfl ?_
    refine e_iinc (L' := [some (.ref a0), some (.int a1), some (.int a2), some (.int a3), some (.int s0), some (.int b5), some (.int (b6 + 1)), some (.int b7)]) (pc := 104) (v := 1) dX4_stand_104 (by decide) rfl kc_1 rfl ?_
    refine e_goto (pc := 107) (tgt := 49) dX4_stand_107 (by decide) ?_
    refine e_forget (L2 := [some (.ref a0), some (.int a1), some (.int a2), some (.int a3), some (.int s0), some (.int b5), some (.int (b6 + 1)), none]) (And.intro rfl (And.intro rfl (And.intro rfl (And.intro rfl (And.intro rfl (And.intro rfl (And.intro rfl trivial))))))) ?_
    exact hk49 s0 b5 (b6 + 1) w
  · refine e_iload (pc := 95) dX4_stand_95 rfl ?_
    refine e_goto (pc := 97) (tgt := 102) dX4_stand_97 (by decide) ?_
    refine e_istore (L' := [some (.ref a0), some (.int a1), some (.int a2), some (.int a3), some (.int s0), some (.int b7), some (.int b6), some (.int b7)]) (pc := 102) dX4_stand_102 (by decide) rfl ?_
    refine e_iinc (L' := [some (.ref a0), some (.int a1), some (.int a2), some (.int a3), some (.int s0), some (.int b7), some (.int (b6 + 1)), some (.int b7)]) (pc := 104) (v := 1) dX4_stand_104 (by decide) rfl kc_1 rfl ?_
    refine e_goto (pc := 107) (tgt := 49) dX4_stand_107 (by decide) ?_
    refine e_forget (L2 := [some (.ref a0), some (.int a1), some (.int a2), some (.int a3), some (.int s0), some (.int b7), some (.int (b6 + 1)), none]) (And.intro rfl (And.intro rfl (And.intro rfl (And.intro rfl (And.intro rfl (And.intro rfl (And.intro rfl trivial))))))) ?_
    exact hk49 s0 b7 (b6 + 1) w
def c_X4_stand_49 (a0 : Nat) (a1 : Int32) (a2 : Int32) (a3 : Int32) (k49 : Int32 → Int32 → Int32 → aW → Option (Int32 × aW)) (b4 : Int32) (b5 : Int32) (b6 : Int32) (w : aW) : Option (Int32 × aW) :=
  if (16 : Int32) ≤ b6 then
    if ¬ a3 = (0 : Int32) then
      some (b5, w)
    else
      some (b4, w)
  else
    (gR 3 w a0 8).bind fun r9 =>
    (sA w r9 a1 b6).bind fun w10 =>
    cV 3 w10 a0 (bk (f_X4_meansThen a0 a1 a2 w10) fun x12 w11 =>
    if x12 ≤ b5 then
      c_X4_stand_86 a0 a1 a2 a3 k49 b5 b6 x12 b4 w11
    else
      c_X4_stand_86 a0 a1 a2 a3 k49 b5 b6 x12 b6 w11)
theorem t_X4_stand_49 (a0 : Nat) (a1 : Int32) (a2 : Int32) (a3 : Int32) (k49 : Int32 → Int32 → Int32 → aW → Option (Int32 × aW)) (hk49 : ∀ (b4 : Int32) (b5 : Int32) (b6 : Int32) (w : aW), Ev rvI M_X4_stand 49 [some (.ref a0), some (.int a1), some (.int a2), some (.int a3), some (.int b4), some (.int b5), some (.int b6), none] [] w (k49 b4 b5 b6 w)) (b4 : Int32) (b5 : Int32) (b6 : Int32) (w : aW) : Ev rvI M_X4_stand 49 [some (.ref a0), some (.int a1), some (.int a2), some (.int a3), some (.int b4), some (.int b5), some (.int b6), none] [] w (c_X4_stand_49 a0 a1 a2 a3 k49 b4 b5 b6 w) := by
  unfold c_X4_stand_49
  refine e_iload (pc := 49) dX4_stand_49 rfl ?_
  refine e_bipush (pc := 51) dX4_stand_51 kb_16 ?_
  refine e_icmp_ge (pc := 53) (tgt := 110) dX4_stand_53 (by decide) (fun _ => ?_) (fun _ => ?_)
  · refine e_iload_n (pc := 110) dX4_stand_110 rfl rfl ?_
    refine e_if_ne (pc := 111) (tgt := 119) dX4_stand_111 (by decide) (fun _ => ?_) (fun _ => ?_)
    · refine e_iload (pc := 119) dX4_stand_119 rfl ?_
      exact e_iret (pc := 121) dX4_stand_121 rfl rfl
    · refine e_iload (pc := 114) dX4_stand_114 rfl ?_
      refine e_goto (pc := 116) (tgt := 121) dX4_stand_116 (by decide) ?_
      exact e_iret (pc := 121) dX4_stand_121 rfl rfl
  · refine e_aload_n (pc := 56) dX4_stand_56 rfl rfl ?_
    refine e_getR (pc := 57) dX4_stand_57 hs_X4_28 (fun r9 => ?_)
    refine e_iload_n (pc := 60) dX4_stand_60 rfl rfl ?_
    refine e_iload (pc := 61) dX4_stand_61 rfl ?_
    refine e_iast (pc := 63) dX4_stand_63 (fun w10 => ?_)
    refine e_aload_n (pc := 64) dX4_stand_64 rfl rfl ?_
    refine e_iload_n (pc := 65) dX4_stand_65 rfl rfl ?_
    refine e_iload_n (pc := 66) dX4_stand_66 rfl rfl ?_
    refine e_callV (pc := 67) (av := [.int a1, .int a2]) (S := []) (c0 := 3) rfl rfl ok_X4_meansThen ⟨Nat.le_of_ble_eq_true rfl, Nat.le_of_ble_eq_true rfl⟩ hv_X4_296 dX4_stand_67 (s_X4_meansThen a0 a1 a2 w10) rfl rfl (Nat.le_of_ble_eq_true rfl) (fun x12 w11 => ?_)
    refine e_istore (L' := [some (.ref a0), some (.int a1), some (.int a2), some (.int a3), some (.int b4), some (.int b5), some (.int b6), some (.int x12)]) (pc := 70) dX4_stand_70 (by decide) rfl ?_
    refine e_iload (pc := 72) dX4_stand_72 rfl ?_
    refine e_iload (pc := 74) dX4_stand_74 rfl ?_
    refine e_icmp_le (pc := 76) (tgt := 84) dX4_stand_76 (by decide) (fun _ => ?_) (fun _ => ?_)
    · refine e_iload (pc := 84) dX4_stand_84 rfl ?_
      refine e_forget (L2 := [some (.ref a0), some (.int a1), some (.int a2), some (.int a3), none, some (.int b5), some (.int b6), some (.int x12)]) (And.intro rfl (And.intro rfl (And.intro rfl (And.intro rfl (And.intro rfl (And.intro rfl (And.intro rfl trivial))))))) ?_
      exact t_X4_stand_86 a0 a1 a2 a3 k49 hk49 b5 b6 x12 b4 w11
    · refine e_iload (pc := 79) dX4_stand_79 rfl ?_
      refine e_goto (pc := 81) (tgt := 86) dX4_stand_81 (by decide) ?_
      refine e_forget (L2 := [some (.ref a0), some (.int a1), some (.int a2), some (.int a3), none, some (.int b5), some (.int b6), some (.int x12)]) (And.intro rfl (And.intro rfl (And.intro rfl (And.intro rfl (And.intro rfl (And.intro rfl (And.intro rfl trivial))))))) ?_
      exact t_X4_stand_86 a0 a1 a2 a3 k49 hk49 b5 b6 x12 b6 w11
def f_X4_stand (a0 : Nat) (a1 : Int32) (a2 : Int32) (a3 : Int32) (w : aW) : Option (Int32 × aW) :=
  (sF 3 w a0 19 (.int (0 : Int32))).bind fun w1 =>
  bk (f_X4_isPerson a1 w1) fun x3 w2 =>
  if x3 = (0 : Int32) then
    some ((-1 : Int32), w2)
  else
    bk (f_X4_in a2.toInt64 (0 : Int64) (20 : Int64) w2) fun x5 w4 =>
    if x5 = (0 : Int32) then
      some ((-1 : Int32), w4)
    else
      bk (f_X4_in a3.toInt64 (0 : Int64) (1 : Int64) w4) fun x7 w6 =>
      if ¬ x7 = (0 : Int32) then
        cV 3 w6 a0 (bk (f_X4_think a0 w6) fun _ w8 =>
        loop4 (c_X4_stand_49 a0 a1 a2 a3) a_fuel (0 : Int32) (-1 : Int32) (0 : Int32) w8)
      else
        some ((-1 : Int32), w6)
theorem s_X4_stand (a0 : Nat) (a1 : Int32) (a2 : Int32) (a3 : Int32) (w : aW) : Sp rvI M_X4_stand [.ref a0, .int a1, .int a2, .int a3] w (f_X4_stand a0 a1 a2 a3 w) := by
  refine e_entry [some (.ref a0), some (.int a1), some (.int a2), some (.int a3), none, none, none, none] (by decide +kernel) (Nat.le_of_ble_eq_true rfl) (fun _ => rfl) ?_
  unfold f_X4_stand
  refine e_aload_n (pc := 0) dX4_stand_0 rfl rfl ?_
  refine e_iconst (pc := 1) dX4_stand_1 kc_0 ?_
  refine e_put (pc := 2) dX4_stand_2 hw_X4_80 (fun _ => rfl) (fun _ => rfl) (fun w1 => ?_)
  refine e_iload_n (pc := 5) dX4_stand_5 rfl rfl ?_
  refine e_callS (pc := 6) (av := [.int a1]) (S := []) ok_X4_isPerson ⟨Nat.le_of_ble_eq_true rfl, Nat.le_of_ble_eq_true rfl⟩ ht_X4_188 dX4_stand_6 (s_X4_isPerson a1 w1) rfl rfl (Nat.le_of_ble_eq_true rfl) (fun x3 w2 => ?_)
  refine e_if_eq (pc := 9) (tgt := 34) dX4_stand_9 (by decide) (fun _ => ?_) (fun _ => ?_)
  · refine e_iconst (pc := 34) dX4_stand_34 kc_m1 ?_
    exact e_iret (pc := 35) dX4_stand_35 rfl rfl
  · refine e_iload_n (pc := 12) dX4_stand_12 rfl rfl ?_
    refine e_i2l (pc := 13) dX4_stand_13 ?_
    refine e_lconst (pc := 14) (v := 0) dX4_stand_14 (by decide) ?_
    refine e_ldc2 (pc := 15) (v := 20) dX4_stand_15 (a_in 1280 (by decide +kernel) rfl) ?_
    refine e_callS (pc := 18) (av := [.long a2.toInt64, .long (0 : Int64), .long (20 : Int64)]) (S := []) ok_X4_in ⟨Nat.le_of_ble_eq_true rfl, Nat.le_of_ble_eq_true rfl⟩ ht_X4_86 dX4_stand_18 (s_X4_in a2.toInt64 (0 : Int64) (20 : Int64) w2) rfl rfl (Nat.le_of_ble_eq_true rfl) (fun x5 w4 => ?_)
    refine e_if_eq (pc := 21) (tgt := 34) dX4_stand_21 (by decide) (fun _ => ?_) (fun _ => ?_)
    · refine e_iconst (pc := 34) dX4_stand_34 kc_m1 ?_
      exact e_iret (pc := 35) dX4_stand_35 rfl rfl
    · refine e_iload_n (pc := 24) dX4_stand_24 rfl rfl ?_
      refine e_i2l (pc := 25) dX4_stand_25 ?_
      refine e_lconst (pc := 26) (v := 0) dX4_stand_26 (by decide) ?_
      refine e_lconst (pc := 27) (v := 1) dX4_stand_27 (by decide) ?_
      refine e_callS (pc := 28) (av := [.long a3.toInt64, .long (0 : Int64), .long (1 : Int64)]) (S := []) ok_X4_in ⟨Nat.le_of_ble_eq_true rfl, Nat.le_of_ble_eq_true rfl⟩ ht_X4_86 dX4_stand_28 (s_X4_in a3.toInt64 (0 : Int64) (1 : Int64) w4) rfl rfl (Nat.le_of_ble_eq_true rfl) (fun x7 w6 => ?_)
      refine e_if_ne (pc := 31) (tgt := 36) dX4_stand_31 (by decide) (fun _ => ?_) (fun _ => ?_)
      · refine e_iconst (pc := 36) dX4_stand_36 kc_0 ?_
        refine e_istore (L' := [some (.ref a0), some (.int a1), some (.int a2), some (.int a3), some (.int (0 : Int32)), none, none, none]) (pc := 37) dX4_stand_37 (by decide) rfl ?_
        refine e_iconst (pc := 39) dX4_stand_39 kc_m1 ?_
        refine e_istore (L' := [some (.ref a0), some (.int a1), some (.int a2), some (.int a3), some (.int (0 : Int32)), some (.int (-1 : Int32)), none, none]) (pc := 40) dX4_stand_40 (by decide) rfl ?_
        refine e_aload_n (pc := 42) dX4_stand_42 rfl rfl ?_
        refine e_callV (pc := 43) (av := []) (S := []) (c0 := 3) rfl rfl ok_X4_think ⟨Nat.le_of_ble_eq_true rfl, Nat.le_of_ble_eq_true rfl⟩ hv_X4_221 dX4_stand_43 (s_X4_think a0 w6) rfl rfl (Nat.le_of_ble_eq_true rfl) (fun _ w8 => ?_)
        refine e_iconst (pc := 46) dX4_stand_46 kc_0 ?_
        refine e_istore (L' := [some (.ref a0), some (.int a1), some (.int a2), some (.int a3), some (.int (0 : Int32)), some (.int (-1 : Int32)), some (.int (0 : Int32)), none]) (pc := 47) dX4_stand_47 (by decide) rfl ?_
        exact e_loop4 (L := fun b4 b5 b6 => [some (.ref a0), some (.int a1), some (.int a2), some (.int a3), some (.int b4), some (.int b5), some (.int b6), none]) (S := fun b4 b5 b6 => []) (fun kf hkf => t_X4_stand_49 a0 a1 a2 a3  kf hkf) _ (0 : Int32) (-1 : Int32) (0 : Int32) w8
      · refine e_iconst (pc := 34) dX4_stand_34 kc_m1 ?_
        exact e_iret (pc := 35) dX4_stand_35 rfl rfl
def M_X4_least : aM := (yX4_least, cX4_least, 6, (some .int), 7, 158)
theorem ok_X4_least : a_okM M_X4_least 2 := ⟨⟨by decide +kernel, by decide +kernel⟩, by decide +kernel, a_in 1288 (by decide +kernel) rfl, a_in 79 (by decide +kernel) rfl⟩
theorem dX4_least_0 : decode M_X4_least.2.1 0 = .ok (.aload_n 0, 1) := by decide +kernel
theorem dX4_least_1 : decode M_X4_least.2.1 1 = .ok (.iconst 0, 1) := by decide +kernel
theorem dX4_least_2 : decode M_X4_least.2.1 2 = .ok (.putfield 80, 3) := by decide +kernel
theorem dX4_least_5 : decode M_X4_least.2.1 5 = .ok (.iload_n 1, 1) := by decide +kernel
theorem dX4_least_6 : decode M_X4_least.2.1 6 = .ok (.invokestatic 188, 3) := by decide +kernel
theorem dX4_least_9 : decode M_X4_least.2.1 9 = .ok (.ifCond .eq 15, 3) := by decide +kernel
theorem dX4_least_12 : decode M_X4_least.2.1 12 = .ok (.iload_n 2, 1) := by decide +kernel
theorem dX4_least_13 : decode M_X4_least.2.1 13 = .ok (.i2l, 1) := by decide +kernel
theorem dX4_least_14 : decode M_X4_least.2.1 14 = .ok (.lconst 0, 1) := by decide +kernel
theorem dX4_least_15 : decode M_X4_least.2.1 15 = .ok (.ldc2_w 310, 3) := by decide +kernel
theorem dX4_least_18 : decode M_X4_least.2.1 18 = .ok (.invokestatic 86, 3) := by decide +kernel
theorem dX4_least_21 : decode M_X4_least.2.1 21 = .ok (.ifCond .ne 5, 3) := by decide +kernel
theorem dX4_least_24 : decode M_X4_least.2.1 24 = .ok (.iconst (-1), 1) := by decide +kernel
theorem dX4_least_25 : decode M_X4_least.2.1 25 = .ok (.ireturn, 1) := by decide +kernel
theorem dX4_least_26 : decode M_X4_least.2.1 26 = .ok (.bipush (-4), 2) := by decide +kernel
theorem dX4_least_28 : decode M_X4_least.2.1 28 = .ok (.istore_n 3, 1) := by decide +kernel
theorem dX4_least_29 : decode M_X4_least.2.1 29 = .ok (.aload_n 0, 1) := by decide +kernel
theorem dX4_least_30 : decode M_X4_least.2.1 30 = .ok (.iload_n 1, 1) := by decide +kernel
theorem dX4_least_31 : decode M_X4_least.2.1 31 = .ok (.invokevirtual 253, 3) := by decide +kernel
theorem dX4_least_34 : decode M_X4_least.2.1 34 = .ok (.istore 4, 2) := by decide +kernel
theorem dX4_least_36 : decode M_X4_least.2.1 36 = .ok (.aload_n 0, 1) := by decide +kernel
theorem dX4_least_37 : decode M_X4_least.2.1 37 = .ok (.invokevirtual 221, 3) := by decide +kernel
theorem dX4_least_40 : decode M_X4_least.2.1 40 = .ok (.iconst 0, 1) := by decide +kernel
theorem dX4_least_41 : decode M_X4_least.2.1 41 = .ok (.istore 5, 2) := by decide +kernel
theorem dX4_least_43 : decode M_X4_least.2.1 43 = .ok (.iload 5, 2) := by decide +kernel
theorem dX4_least_45 : decode M_X4_least.2.1 45 = .ok (.bipush 60, 2) := by decide +kernel
theorem dX4_least_47 : decode M_X4_least.2.1 47 = .ok (.if_icmp .gt 39, 3) := by decide +kernel
theorem dX4_least_50 : decode M_X4_least.2.1 50 = .ok (.iload_n 3, 1) := by decide +kernel
theorem dX4_least_51 : decode M_X4_least.2.1 51 = .ok (.ifCond .ge 35, 3) := by decide +kernel
theorem dX4_least_54 : decode M_X4_least.2.1 54 = .ok (.aload_n 0, 1) := by decide +kernel
theorem dX4_least_55 : decode M_X4_least.2.1 55 = .ok (.getfield 25, 3) := by decide +kernel
theorem dX4_least_58 : decode M_X4_least.2.1 58 = .ok (.iload_n 1, 1) := by decide +kernel
theorem dX4_least_59 : decode M_X4_least.2.1 59 = .ok (.iload 5, 2) := by decide +kernel
theorem dX4_least_61 : decode M_X4_least.2.1 61 = .ok (.iastore, 1) := by decide +kernel
theorem dX4_least_62 : decode M_X4_least.2.1 62 = .ok (.aload_n 0, 1) := by decide +kernel
theorem dX4_least_63 : decode M_X4_least.2.1 63 = .ok (.iload 4, 2) := by decide +kernel
theorem dX4_least_65 : decode M_X4_least.2.1 65 = .ok (.iload_n 2, 1) := by decide +kernel
theorem dX4_least_66 : decode M_X4_least.2.1 66 = .ok (.invokevirtual 307, 3) := by decide +kernel
theorem dX4_least_69 : decode M_X4_least.2.1 69 = .ok (.ifCond .eq 8, 3) := by decide +kernel
theorem dX4_least_72 : decode M_X4_least.2.1 72 = .ok (.iload 5, 2) := by decide +kernel
theorem dX4_least_74 : decode M_X4_least.2.1 74 = .ok (.goto 5, 3) := by decide +kernel
theorem dX4_least_77 : decode M_X4_least.2.1 77 = .ok (.bipush (-4), 2) := by decide +kernel
theorem dX4_least_79 : decode M_X4_least.2.1 79 = .ok (.istore_n 3, 1) := by decide +kernel
theorem dX4_least_80 : decode M_X4_least.2.1 80 = .ok (.iinc 5 1, 3) := by decide +kernel
theorem dX4_least_83 : decode M_X4_least.2.1 83 = .ok (.goto (-40), 3) := by decide +kernel
theorem dX4_least_86 : decode M_X4_least.2.1 86 = .ok (.iload_n 3, 1) := by decide +kernel
theorem dX4_least_87 : decode M_X4_least.2.1 87 = .ok (.ireturn, 1) := by decide +kernel
def c_X4_least_43 (a0 : Nat) (a1 : Int32) (a2 : Int32) (k43 : Int32 → Int32 → Int32 → aW → Option (Int32 × aW)) (b3 : Int32) (b4 : Int32) (b5 : Int32) (w : aW) : Option (Int32 × aW) :=
  if (60 : Int32) < b5 then
    some (b3, w)
  else
    if (0 : Int32) ≤ b3 then
      some (b3, w)
    else
      (gR 3 w a0 7).bind fun r9 =>
      (sA w r9 a1 b5).bind fun w10 =>
      cV 3 w10 a0 (bk (f_X4_allLive a0 b4 a2 w10) fun x12 w11 =>
      if x12 = (0 : Int32) then
        k43 (-4 : Int32) b4 (b5 + 1) w11
      else
        k43 b5 b4 (b5 + 1) w11)
theorem t_X4_least_43 (a0 : Nat) (a1 : Int32) (a2 : Int32) (k43 : Int32 → Int32 → Int32 → aW → Option (Int32 × aW)) (hk43 : ∀ (b3 : Int32) (b4 : Int32) (b5 : Int32) (w : aW), Ev rvI M_X4_least 43 [some (.ref a0), some (.int a1), some (.int a2), some (.int b3), some (.int b4), some (.int b5)] [] w (k43 b3 b4 b5 w)) (b3 : Int32) (b4 : Int32) (b5 : Int32) (w : aW) : Ev rvI M_X4_least 43 [some (.ref a0), some (.int a1), some (.int a2), some (.int b3), some (.int b4), some (.int b5)] [] w (c_X4_least_43 a0 a1 a2 k43 b3 b4 b5 w) := by
  unfold c_X4_least_43
  refine e_iload (pc := 43) dX4_least_43 rfl ?_
  refine e_bipush (pc := 45) dX4_least_45 kb_60 ?_
  refine e_icmp_gt (pc := 47) (tgt := 86) dX4_least_47 (by decide) (fun _ => ?_) (fun _ => ?_)
  · refine e_iload_n (pc := 86) dX4_least_86 rfl rfl ?_
    exact e_iret (pc := 87) dX4_least_87 rfl rfl
  · refine e_iload_n (pc := 50) dX4_least_50 rfl rfl ?_
    refine e_if_ge (pc := 51) (tgt := 86) dX4_least_51 (by decide) (fun _ => ?_) (fun _ => ?_)
    · refine e_iload_n (pc := 86) dX4_least_86 rfl rfl ?_
      exact e_iret (pc := 87) dX4_least_87 rfl rfl
    · refine e_aload_n (pc := 54) dX4_least_54 rfl rfl ?_
      refine e_getR (pc := 55) dX4_least_55 hs_X4_25 (fun r9 => ?_)
      refine e_iload_n (pc := 58) dX4_least_58 rfl rfl ?_
      refine e_iload (pc := 59) dX4_least_59 rfl ?_
      refine e_iast (pc := 61) dX4_least_61 (fun w10 => ?_)
      refine e_aload_n (pc := 62) dX4_least_62 rfl rfl ?_
      refine e_iload (pc := 63) dX4_least_63 rfl ?_
      refine e_iload_n (pc := 65) dX4_least_65 rfl rfl ?_
      refine e_callV (pc := 66) (av := [.int b4, .int a2]) (S := []) (c0 := 3) rfl rfl ok_X4_allLive ⟨Nat.le_of_ble_eq_true rfl, Nat.le_of_ble_eq_true rfl⟩ hv_X4_307 dX4_least_66 (s_X4_allLive a0 b4 a2 w10) rfl rfl (Nat.le_of_ble_eq_true rfl) (fun x12 w11 => ?_)
      refine e_if_eq (pc := 69) (tgt := 77) dX4_least_69 (by decide) (fun _ => ?_) (fun _ => ?_)
      · refine e_bipush (pc := 77) dX4_least_77 kb_m4 ?_
        refine e_istore_n (L' := [some (.ref a0), some (.int a1), some (.int a2), some (.int (-4 : Int32)), some (.int b4), some (.int b5)]) (pc := 79) dX4_least_79 rfl (by decide) rfl ?_
        refine e_iinc (L' := [some (.ref a0), some (.int a1), some (.int a2), some (.int (-4 : Int32)), some (.int b4), some (.int (b5 + 1))]) (pc := 80) (v := 1) dX4_least_80 (by decide) rfl kc_1 rfl ?_
        refine e_goto (pc := 83) (tgt := 43) dX4_least_83 (by decide) ?_
        exact hk43 (-4 : Int32) b4 (b5 + 1) w11
      · refine e_iload (pc := 72) dX4_least_72 rfl ?_
        refine e_goto (pc := 74) (tgt := 79) dX4_least_74 (by decide) ?_
        refine e_istore_n (L' := [some (.ref a0), some (.int a1), some (.int a2), some (.int b5), some (.int b4), some (.int b5)]) (pc := 79) dX4_least_79 rfl (by decide) rfl ?_
        refine e_iinc (L' := [some (.ref a0), some (.int a1), some (.int a2), some (.int b5), some (.int b4), some (.int (b5 + 1))]) (pc := 80) (v := 1) dX4_least_80 (by decide) rfl kc_1 rfl ?_
        refine e_goto (pc := 83) (tgt := 43) dX4_least_83 (by decide) ?_
        exact hk43 b5 b4 (b5 + 1) w11
def f_X4_least (a0 : Nat) (a1 : Int32) (a2 : Int32) (w : aW) : Option (Int32 × aW) :=
  (sF 3 w a0 19 (.int (0 : Int32))).bind fun w1 =>
  bk (f_X4_isPerson a1 w1) fun x3 w2 =>
  if x3 = (0 : Int32) then
    some ((-1 : Int32), w2)
  else
    bk (f_X4_in a2.toInt64 (0 : Int64) (20 : Int64) w2) fun x5 w4 =>
    if ¬ x5 = (0 : Int32) then
      cV 3 w4 a0 (bk (f_X4_calledBits a0 a1 w4) fun x7 w6 =>
      cV 3 w6 a0 (bk (f_X4_think a0 w6) fun _ w8 =>
      loop4 (c_X4_least_43 a0 a1 a2) a_fuel (-4 : Int32) x7 (0 : Int32) w8))
    else
      some ((-1 : Int32), w4)
theorem s_X4_least (a0 : Nat) (a1 : Int32) (a2 : Int32) (w : aW) : Sp rvI M_X4_least [.ref a0, .int a1, .int a2] w (f_X4_least a0 a1 a2 w) := by
  refine e_entry [some (.ref a0), some (.int a1), some (.int a2), none, none, none] (by decide +kernel) (Nat.le_of_ble_eq_true rfl) (fun _ => rfl) ?_
  unfold f_X4_least
  refine e_aload_n (pc := 0) dX4_least_0 rfl rfl ?_
  refine e_iconst (pc := 1) dX4_least_1 kc_0 ?_
  refine e_put (pc := 2) dX4_least_2 hw_X4_80 (fun _ => rfl) (fun _ => rfl) (fun w1 => ?_)
  refine e_iload_n (pc := 5) dX4_least_5 rfl rfl ?_
  refine e_callS (pc := 6) (av := [.int a1]) (S := []) ok_X4_isPerson ⟨Nat.le_of_ble_eq_true rfl, Nat.le_of_ble_eq_true rfl⟩ ht_X4_188 dX4_least_6 (s_X4_isPerson a1 w1) rfl rfl (Nat.le_of_ble_eq_true rfl) (fun x3 w2 => ?_)
  refine e_if_eq (pc := 9) (tgt := 24) dX4_least_9 (by decide) (fun _ => ?_) (fun _ => ?_)
  · refine e_iconst (pc := 24) dX4_least_24 kc_m1 ?_
    exact e_iret (pc := 25) dX4_least_25 rfl rfl
  · refine e_iload_n (pc := 12) dX4_least_12 rfl rfl ?_
    refine e_i2l (pc := 13) dX4_least_13 ?_
    refine e_lconst (pc := 14) (v := 0) dX4_least_14 (by decide) ?_
    refine e_ldc2 (pc := 15) (v := 20) dX4_least_15 (a_in 1280 (by decide +kernel) rfl) ?_
    refine e_callS (pc := 18) (av := [.long a2.toInt64, .long (0 : Int64), .long (20 : Int64)]) (S := []) ok_X4_in ⟨Nat.le_of_ble_eq_true rfl, Nat.le_of_ble_eq_true rfl⟩ ht_X4_86 dX4_least_18 (s_X4_in a2.toInt64 (0 : Int64) (20 : Int64) w2) rfl rfl (Nat.le_of_ble_eq_true rfl) (fun x5 w4 => ?_)
    refine e_if_ne (pc := 21) (tgt := 26) dX4_least_21 (by decide) (fun _ => ?_) (fun _ => ?_)
    · refine e_bipush (pc := 26) dX4_least_26 kb_m4 ?_
      refine e_istore_n (L' := [some (.ref a0), some (.int a1), some (.int a2), some (.int (-4 : Int32)), none, none]) (pc := 28) dX4_least_28 rfl (by decide) rfl ?_
      refine e_aload_n (pc := 29) dX4_least_29 rfl rfl ?_
      refine e_iload_n (pc := 30) dX4_least_30 rfl rfl ?_
      refine e_callV (pc := 31) (av := [.int a1]) (S := []) (c0 := 3) rfl rfl ok_X4_calledBits ⟨Nat.le_of_ble_eq_true rfl, Nat.le_of_ble_eq_true rfl⟩ hv_X4_253 dX4_least_31 (s_X4_calledBits a0 a1 w4) rfl rfl (Nat.le_of_ble_eq_true rfl) (fun x7 w6 => ?_)
      refine e_istore (L' := [some (.ref a0), some (.int a1), some (.int a2), some (.int (-4 : Int32)), some (.int x7), none]) (pc := 34) dX4_least_34 (by decide) rfl ?_
      refine e_aload_n (pc := 36) dX4_least_36 rfl rfl ?_
      refine e_callV (pc := 37) (av := []) (S := []) (c0 := 3) rfl rfl ok_X4_think ⟨Nat.le_of_ble_eq_true rfl, Nat.le_of_ble_eq_true rfl⟩ hv_X4_221 dX4_least_37 (s_X4_think a0 w6) rfl rfl (Nat.le_of_ble_eq_true rfl) (fun _ w8 => ?_)
      refine e_iconst (pc := 40) dX4_least_40 kc_0 ?_
      refine e_istore (L' := [some (.ref a0), some (.int a1), some (.int a2), some (.int (-4 : Int32)), some (.int x7), some (.int (0 : Int32))]) (pc := 41) dX4_least_41 (by decide) rfl ?_
      exact e_loop4 (L := fun b3 b4 b5 => [some (.ref a0), some (.int a1), some (.int a2), some (.int b3), some (.int b4), some (.int b5)]) (S := fun b3 b4 b5 => []) (fun kf hkf => t_X4_least_43 a0 a1 a2  kf hkf) _ (-4 : Int32) x7 (0 : Int32) w8
    · refine e_iconst (pc := 24) dX4_least_24 kc_m1 ?_
      exact e_iret (pc := 25) dX4_least_25 rfl rfl
def M_X4_liveThen : aM := (yX4_liveThen, cX4_liveThen, 3, (some .int), 6, 135)
theorem ok_X4_liveThen : a_okM M_X4_liveThen 1 := ⟨⟨by decide +kernel, by decide +kernel⟩, by decide +kernel, a_in 1296 (by decide +kernel) rfl, a_in 79 (by decide +kernel) rfl⟩
theorem dX4_liveThen_0 : decode M_X4_liveThen.2.1 0 = .ok (.aload_n 0, 1) := by decide +kernel
theorem dX4_liveThen_1 : decode M_X4_liveThen.2.1 1 = .ok (.iload_n 1, 1) := by decide +kernel
theorem dX4_liveThen_2 : decode M_X4_liveThen.2.1 2 = .ok (.invokevirtual 193, 3) := by decide +kernel
theorem dX4_liveThen_5 : decode M_X4_liveThen.2.1 5 = .ok (.aload_n 0, 1) := by decide +kernel
theorem dX4_liveThen_6 : decode M_X4_liveThen.2.1 6 = .ok (.getfield 107, 3) := by decide +kernel
theorem dX4_liveThen_9 : decode M_X4_liveThen.2.1 9 = .ok (.invokestatic 271, 3) := by decide +kernel
theorem dX4_liveThen_12 : decode M_X4_liveThen.2.1 12 = .ok (.istore_n 2, 1) := by decide +kernel
theorem dX4_liveThen_13 : decode M_X4_liveThen.2.1 13 = .ok (.aload_n 0, 1) := by decide +kernel
theorem dX4_liveThen_14 : decode M_X4_liveThen.2.1 14 = .ok (.invokevirtual 227, 3) := by decide +kernel
theorem dX4_liveThen_17 : decode M_X4_liveThen.2.1 17 = .ok (.iload_n 2, 1) := by decide +kernel
theorem dX4_liveThen_18 : decode M_X4_liveThen.2.1 18 = .ok (.ireturn, 1) := by decide +kernel
def f_X4_liveThen (a0 : Nat) (a1 : Int32) (w : aW) : Option (Int32 × aW) :=
  cV 3 w a0 (bk (f_X4_goDays a0 a1 w) fun _ w1 =>
  (gI 3 w1 a0 6).bind fun x2 =>
  bk (f_X4_onesOf x2 w1) fun x4 w3 =>
  cV 3 w3 a0 (bk (f_X4_again a0 w3) fun _ w5 =>
  some (x4, w5)))
theorem s_X4_liveThen (a0 : Nat) (a1 : Int32) (w : aW) : Sp rvI M_X4_liveThen [.ref a0, .int a1] w (f_X4_liveThen a0 a1 w) := by
  refine e_entry [some (.ref a0), some (.int a1), none] (by decide +kernel) (Nat.le_of_ble_eq_true rfl) (fun _ => rfl) ?_
  unfold f_X4_liveThen
  refine e_aload_n (pc := 0) dX4_liveThen_0 rfl rfl ?_
  refine e_iload_n (pc := 1) dX4_liveThen_1 rfl rfl ?_
  refine e_callV (pc := 2) (av := [.int a1]) (S := []) (c0 := 3) rfl rfl ok_X4_goDays ⟨Nat.le_of_ble_eq_true rfl, Nat.le_of_ble_eq_true rfl⟩ hv_X4_193 dX4_liveThen_2 (s_X4_goDays a0 a1 w) rfl rfl (Nat.le_of_ble_eq_true rfl) (fun _ w1 => ?_)
  refine e_aload_n (pc := 5) dX4_liveThen_5 rfl rfl ?_
  refine e_getI (pc := 6) dX4_liveThen_6 hs_X4_107 (fun x2 => ?_)
  refine e_callS (pc := 9) (av := [.int x2]) (S := []) ok_X4_onesOf ⟨Nat.le_of_ble_eq_true rfl, Nat.le_of_ble_eq_true rfl⟩ ht_X4_271 dX4_liveThen_9 (s_X4_onesOf x2 w1) rfl rfl (Nat.le_of_ble_eq_true rfl) (fun x4 w3 => ?_)
  refine e_istore_n (L' := [some (.ref a0), some (.int a1), some (.int x4)]) (pc := 12) dX4_liveThen_12 rfl (by decide) rfl ?_
  refine e_aload_n (pc := 13) dX4_liveThen_13 rfl rfl ?_
  refine e_callV (pc := 14) (av := []) (S := []) (c0 := 3) rfl rfl ok_X4_again ⟨Nat.le_of_ble_eq_true rfl, Nat.le_of_ble_eq_true rfl⟩ hv_X4_227 dX4_liveThen_14 (s_X4_again a0 w3) rfl rfl (Nat.le_of_ble_eq_true rfl) (fun _ w5 => ?_)
  refine e_iload_n (pc := 17) dX4_liveThen_17 rfl rfl ?_
  exact e_iret (pc := 18) dX4_liveThen_18 rfl rfl
def M_X4_exchange : aM := (yX4_exchange, cX4_exchange, 9, (some .int), 7, 157)
theorem ok_X4_exchange : a_okM M_X4_exchange 1 := ⟨⟨by decide +kernel, by decide +kernel⟩, by decide +kernel, a_in 1292 (by decide +kernel) rfl, a_in 79 (by decide +kernel) rfl⟩
theorem dX4_exchange_0 : decode M_X4_exchange.2.1 0 = .ok (.aload_n 0, 1) := by decide +kernel
theorem dX4_exchange_1 : decode M_X4_exchange.2.1 1 = .ok (.iconst 0, 1) := by decide +kernel
theorem dX4_exchange_2 : decode M_X4_exchange.2.1 2 = .ok (.putfield 80, 3) := by decide +kernel
theorem dX4_exchange_5 : decode M_X4_exchange.2.1 5 = .ok (.iload_n 1, 1) := by decide +kernel
theorem dX4_exchange_6 : decode M_X4_exchange.2.1 6 = .ok (.i2l, 1) := by decide +kernel
theorem dX4_exchange_7 : decode M_X4_exchange.2.1 7 = .ok (.lconst 0, 1) := by decide +kernel
theorem dX4_exchange_8 : decode M_X4_exchange.2.1 8 = .ok (.ldc2_w 310, 3) := by decide +kernel
theorem dX4_exchange_11 : decode M_X4_exchange.2.1 11 = .ok (.invokestatic 86, 3) := by decide +kernel
theorem dX4_exchange_14 : decode M_X4_exchange.2.1 14 = .ok (.ifCond .ne 5, 3) := by decide +kernel
theorem dX4_exchange_17 : decode M_X4_exchange.2.1 17 = .ok (.iconst (-1), 1) := by decide +kernel
theorem dX4_exchange_18 : decode M_X4_exchange.2.1 18 = .ok (.ireturn, 1) := by decide +kernel
theorem dX4_exchange_19 : decode M_X4_exchange.2.1 19 = .ok (.bipush (-4), 2) := by decide +kernel
theorem dX4_exchange_21 : decode M_X4_exchange.2.1 21 = .ok (.istore_n 2, 1) := by decide +kernel
theorem dX4_exchange_22 : decode M_X4_exchange.2.1 22 = .ok (.aload_n 0, 1) := by decide +kernel
theorem dX4_exchange_23 : decode M_X4_exchange.2.1 23 = .ok (.invokevirtual 221, 3) := by decide +kernel
theorem dX4_exchange_26 : decode M_X4_exchange.2.1 26 = .ok (.aload_n 0, 1) := by decide +kernel
theorem dX4_exchange_27 : decode M_X4_exchange.2.1 27 = .ok (.iload_n 1, 1) := by decide +kernel
theorem dX4_exchange_28 : decode M_X4_exchange.2.1 28 = .ok (.invokevirtual 312, 3) := by decide +kernel
theorem dX4_exchange_31 : decode M_X4_exchange.2.1 31 = .ok (.istore_n 3, 1) := by decide +kernel
theorem dX4_exchange_32 : decode M_X4_exchange.2.1 32 = .ok (.iconst 0, 1) := by decide +kernel
theorem dX4_exchange_33 : decode M_X4_exchange.2.1 33 = .ok (.istore 4, 2) := by decide +kernel
theorem dX4_exchange_35 : decode M_X4_exchange.2.1 35 = .ok (.iload 4, 2) := by decide +kernel
theorem dX4_exchange_37 : decode M_X4_exchange.2.1 37 = .ok (.bipush 25, 2) := by decide +kernel
theorem dX4_exchange_39 : decode M_X4_exchange.2.1 39 = .ok (.if_icmp .ge 99, 3) := by decide +kernel
theorem dX4_exchange_42 : decode M_X4_exchange.2.1 42 = .ok (.iload 4, 2) := by decide +kernel
theorem dX4_exchange_44 : decode M_X4_exchange.2.1 44 = .ok (.iconst 5, 1) := by decide +kernel
theorem dX4_exchange_45 : decode M_X4_exchange.2.1 45 = .ok (.idiv, 1) := by decide +kernel
theorem dX4_exchange_46 : decode M_X4_exchange.2.1 46 = .ok (.istore 5, 2) := by decide +kernel
theorem dX4_exchange_48 : decode M_X4_exchange.2.1 48 = .ok (.iload 4, 2) := by decide +kernel
theorem dX4_exchange_50 : decode M_X4_exchange.2.1 50 = .ok (.iconst 5, 1) := by decide +kernel
theorem dX4_exchange_51 : decode M_X4_exchange.2.1 51 = .ok (.irem, 1) := by decide +kernel
theorem dX4_exchange_52 : decode M_X4_exchange.2.1 52 = .ok (.istore 6, 2) := by decide +kernel
theorem dX4_exchange_54 : decode M_X4_exchange.2.1 54 = .ok (.iload 5, 2) := by decide +kernel
theorem dX4_exchange_56 : decode M_X4_exchange.2.1 56 = .ok (.iload 6, 2) := by decide +kernel
theorem dX4_exchange_58 : decode M_X4_exchange.2.1 58 = .ok (.if_icmp .ge 74, 3) := by decide +kernel
theorem dX4_exchange_61 : decode M_X4_exchange.2.1 61 = .ok (.aload_n 0, 1) := by decide +kernel
theorem dX4_exchange_62 : decode M_X4_exchange.2.1 62 = .ok (.getfield 31, 3) := by decide +kernel
theorem dX4_exchange_65 : decode M_X4_exchange.2.1 65 = .ok (.iload 5, 2) := by decide +kernel
theorem dX4_exchange_67 : decode M_X4_exchange.2.1 67 = .ok (.iaload, 1) := by decide +kernel
theorem dX4_exchange_68 : decode M_X4_exchange.2.1 68 = .ok (.istore 7, 2) := by decide +kernel
theorem dX4_exchange_70 : decode M_X4_exchange.2.1 70 = .ok (.aload_n 0, 1) := by decide +kernel
theorem dX4_exchange_71 : decode M_X4_exchange.2.1 71 = .ok (.getfield 31, 3) := by decide +kernel
theorem dX4_exchange_74 : decode M_X4_exchange.2.1 74 = .ok (.iload 5, 2) := by decide +kernel
theorem dX4_exchange_76 : decode M_X4_exchange.2.1 76 = .ok (.aload_n 0, 1) := by decide +kernel
theorem dX4_exchange_77 : decode M_X4_exchange.2.1 77 = .ok (.getfield 31, 3) := by decide +kernel
theorem dX4_exchange_80 : decode M_X4_exchange.2.1 80 = .ok (.iload 6, 2) := by decide +kernel
theorem dX4_exchange_82 : decode M_X4_exchange.2.1 82 = .ok (.iaload, 1) := by decide +kernel
theorem dX4_exchange_83 : decode M_X4_exchange.2.1 83 = .ok (.iastore, 1) := by decide +kernel
theorem dX4_exchange_84 : decode M_X4_exchange.2.1 84 = .ok (.aload_n 0, 1) := by decide +kernel
theorem dX4_exchange_85 : decode M_X4_exchange.2.1 85 = .ok (.getfield 31, 3) := by decide +kernel
theorem dX4_exchange_88 : decode M_X4_exchange.2.1 88 = .ok (.iload 6, 2) := by decide +kernel
theorem dX4_exchange_90 : decode M_X4_exchange.2.1 90 = .ok (.iload 7, 2) := by decide +kernel
theorem dX4_exchange_92 : decode M_X4_exchange.2.1 92 = .ok (.iastore, 1) := by decide +kernel
theorem dX4_exchange_93 : decode M_X4_exchange.2.1 93 = .ok (.aload_n 0, 1) := by decide +kernel
theorem dX4_exchange_94 : decode M_X4_exchange.2.1 94 = .ok (.iload_n 1, 1) := by decide +kernel
theorem dX4_exchange_95 : decode M_X4_exchange.2.1 95 = .ok (.invokevirtual 312, 3) := by decide +kernel
theorem dX4_exchange_98 : decode M_X4_exchange.2.1 98 = .ok (.istore 8, 2) := by decide +kernel
theorem dX4_exchange_100 : decode M_X4_exchange.2.1 100 = .ok (.iload 8, 2) := by decide +kernel
theorem dX4_exchange_102 : decode M_X4_exchange.2.1 102 = .ok (.iload_n 3, 1) := by decide +kernel
theorem dX4_exchange_103 : decode M_X4_exchange.2.1 103 = .ok (.if_icmp .le 14, 3) := by decide +kernel
theorem dX4_exchange_106 : decode M_X4_exchange.2.1 106 = .ok (.bipush 10, 2) := by decide +kernel
theorem dX4_exchange_108 : decode M_X4_exchange.2.1 108 = .ok (.iload 5, 2) := by decide +kernel
theorem dX4_exchange_110 : decode M_X4_exchange.2.1 110 = .ok (.imul, 1) := by decide +kernel
theorem dX4_exchange_111 : decode M_X4_exchange.2.1 111 = .ok (.iload 6, 2) := by decide +kernel
theorem dX4_exchange_113 : decode M_X4_exchange.2.1 113 = .ok (.iadd, 1) := by decide +kernel
theorem dX4_exchange_114 : decode M_X4_exchange.2.1 114 = .ok (.goto 4, 3) := by decide +kernel
theorem dX4_exchange_117 : decode M_X4_exchange.2.1 117 = .ok (.iload_n 2, 1) := by decide +kernel
theorem dX4_exchange_118 : decode M_X4_exchange.2.1 118 = .ok (.istore_n 2, 1) := by decide +kernel
theorem dX4_exchange_119 : decode M_X4_exchange.2.1 119 = .ok (.iload 8, 2) := by decide +kernel
theorem dX4_exchange_121 : decode M_X4_exchange.2.1 121 = .ok (.iload_n 3, 1) := by decide +kernel
theorem dX4_exchange_122 : decode M_X4_exchange.2.1 122 = .ok (.if_icmp .le 8, 3) := by decide +kernel
theorem dX4_exchange_125 : decode M_X4_exchange.2.1 125 = .ok (.iload 8, 2) := by decide +kernel
theorem dX4_exchange_127 : decode M_X4_exchange.2.1 127 = .ok (.goto 4, 3) := by decide +kernel
theorem dX4_exchange_130 : decode M_X4_exchange.2.1 130 = .ok (.iload_n 3, 1) := by decide +kernel
theorem dX4_exchange_131 : decode M_X4_exchange.2.1 131 = .ok (.istore_n 3, 1) := by decide +kernel
theorem dX4_exchange_132 : decode M_X4_exchange.2.1 132 = .ok (.iinc 4 1, 3) := by decide +kernel
theorem dX4_exchange_135 : decode M_X4_exchange.2.1 135 = .ok (.goto (-100), 3) := by decide +kernel
theorem dX4_exchange_138 : decode M_X4_exchange.2.1 138 = .ok (.iload_n 2, 1) := by decide +kernel
theorem dX4_exchange_139 : decode M_X4_exchange.2.1 139 = .ok (.ireturn, 1) := by decide +kernel
theorem hv_X4_312 : a_okV RX4 M_X4_liveThen 312 := ⟨a_in 1293 (by decide +kernel) rfl, a_in 1295 (by decide +kernel) rfl, a_in 64 (by decide +kernel) rfl⟩
def c_X4_exchange_118 (a0 : Nat) (a1 : Int32) (k35 : Int32 → Int32 → Int32 → aW → Option (Int32 × aW)) (b3 : Int32) (b4 : Int32) (b8 : Int32) (s0 : Int32) (w : aW) : Option (Int32 × aW) :=
  if b8 ≤ b3 then
    k35 s0 b3 (b4 + 1) w
  else
    k35 s0 b8 (b4 + 1) w
theorem t_X4_exchange_118 (a0 : Nat) (a1 : Int32) (k35 : Int32 → Int32 → Int32 → aW → Option (Int32 × aW)) (hk35 : ∀ (b2 : Int32) (b3 : Int32) (b4 : Int32) (w : aW), Ev rvI M_X4_exchange 35 [some (.ref a0), some (.int a1), some (.int b2), some (.int b3), some (.int b4), none, none, none, none] [] w (k35 b2 b3 b4 w)) (b3 : Int32) (b4 : Int32) (b8 : Int32) (s0 : Int32) (w : aW) : Ev rvI M_X4_exchange 118 [some (.ref a0), some (.int a1), none, some (.int b3), some (.int b4), none, none, none, some (.int b8)] [.int s0] w (c_X4_exchange_118 a0 a1 k35 b3 b4 b8 s0 w) := by
  unfold c_X4_exchange_118
  refine e_istore_n (L' := [some (.ref a0), some (.int a1), some (.int s0), some (.int b3), some (.int b4), none, none, none, some (.int b8)]) (pc := 118) dX4_exchange_118 rfl (by decide) rfl ?_
  refine e_iload (pc := 119) dX4_exchange_119 rfl ?_
  refine e_iload_n (pc := 121) dX4_exchange_121 rfl rfl ?_
  refine e_icmp_le (pc := 122) (tgt := 130) dX4_exchange_122 (by decide) (fun _ => ?_) (fun _ => ?_)
  · refine e_iload_n (pc := 130) dX4_exchange_130 rfl rfl ?_
    refine e_istore_n (L' := [some (.ref a0), some (.int a1), some (.int s0), some (.int b3), some (.int b4), none, none, none, some (.int b8)]) (pc := 131) dX4_exchange_131 rfl (by decide) rfl ?_
    refine e_iinc (L' := [some (.ref a0), some (.int a1), some (.int s0), some (.int b3), some (.int (b4 + 1)), none, none, none, some (.int b8)]) (pc := 132) (v := 1) dX4_exchange_132 (by decide) rfl kc_1 rfl ?_
    refine e_goto (pc := 135) (tgt := 35) dX4_exchange_135 (by decide) ?_
    refine e_forget (L2 := [some (.ref a0), some (.int a1), some (.int s0), some (.int b3), some (.int (b4 + 1)), none, none, none, none]) (And.intro rfl (And.intro rfl (And.intro rfl (And.intro rfl (And.intro rfl trivial))))) ?_
    exact hk35 s0 b3 (b4 + 1) w
  · refine e_iload (pc := 125) dX4_exchange_125 rfl ?_
    refine e_goto (pc := 127) (tgt := 131) dX4_exchange_127 (by decide) ?_
    refine e_istore_n (L' := [some (.ref a0), some (.int a1), some (.int s0), some (.int b8), some (.int b4), none, none, none, some (.int b8)]) (pc := 131) dX4_exchange_131 rfl (by decide) rfl ?_
    refine e_iinc (L' := [some (.ref a0), some (.int a1), some (.int s0), some (.int b8), some (.int (b4 + 1)), none, none, none, some (.int b8)]) (pc := 132) (v := 1) dX4_exchange_132 (by decide) rfl kc_1 rfl ?_
    refine e_goto (pc := 135) (tgt := 35) dX4_exchange_135 (by decide) ?_
    refine e_forget (L2 := [some (.ref a0), some (.int a1), some (.int s0), some (.int b8), some (.int (b4 + 1)), none, none, none, none]) (And.intro rfl (And.intro rfl (And.intro rfl (And.intro rfl (And.intro rfl trivial))))) ?_
    exact hk35 s0 b8 (b4 + 1) w
def c_X4_exchange_35 (a0 : Nat) (a1 : Int32) (k35 : Int32 → Int32 → Int32 → aW → Option (Int32 × aW)) (b2 : Int32) (b3 : Int32) (b4 : Int32) (w : aW) : Option (Int32 × aW) :=
  if (25 : Int32) ≤ b4 then
    some (b2, w)
  else
    if (b4 - b4 / (5 : Int32) * (5 : Int32)) ≤ (b4 / (5 : Int32)) then
      k35 b2 b3 (b4 + 1) w
    else
      (gR 3 w a0 9).bind fun r7 =>
      (gA w r7 (b4 / (5 : Int32))).bind fun x8 =>
      (gR 3 w a0 9).bind fun r9 =>
      (gR 3 w a0 9).bind fun r10 =>
      (gA w r10 (b4 - b4 / (5 : Int32) * (5 : Int32))).bind fun x11 =>
      (sA w r9 (b4 / (5 : Int32)) x11).bind fun w12 =>
      (gR 3 w12 a0 9).bind fun r13 =>
      (sA w12 r13 (b4 - b4 / (5 : Int32) * (5 : Int32)) x8).bind fun w14 =>
      cV 3 w14 a0 (bk (f_X4_liveThen a0 a1 w14) fun x16 w15 =>
      if x16 ≤ b3 then
        c_X4_exchange_118 a0 a1 k35 b3 b4 x16 b2 w15
      else
        c_X4_exchange_118 a0 a1 k35 b3 b4 x16 (((10 : Int32) * (b4 / (5 : Int32))) + (b4 - b4 / (5 : Int32) * (5 : Int32))) w15)
theorem t_X4_exchange_35 (a0 : Nat) (a1 : Int32) (k35 : Int32 → Int32 → Int32 → aW → Option (Int32 × aW)) (hk35 : ∀ (b2 : Int32) (b3 : Int32) (b4 : Int32) (w : aW), Ev rvI M_X4_exchange 35 [some (.ref a0), some (.int a1), some (.int b2), some (.int b3), some (.int b4), none, none, none, none] [] w (k35 b2 b3 b4 w)) (b2 : Int32) (b3 : Int32) (b4 : Int32) (w : aW) : Ev rvI M_X4_exchange 35 [some (.ref a0), some (.int a1), some (.int b2), some (.int b3), some (.int b4), none, none, none, none] [] w (c_X4_exchange_35 a0 a1 k35 b2 b3 b4 w) := by
  unfold c_X4_exchange_35
  refine e_iload (pc := 35) dX4_exchange_35 rfl ?_
  refine e_bipush (pc := 37) dX4_exchange_37 kb_25 ?_
  refine e_icmp_ge (pc := 39) (tgt := 138) dX4_exchange_39 (by decide) (fun _ => ?_) (fun _ => ?_)
  · refine e_iload_n (pc := 138) dX4_exchange_138 rfl rfl ?_
    exact e_iret (pc := 139) dX4_exchange_139 rfl rfl
  · refine e_iload (pc := 42) dX4_exchange_42 rfl ?_
    refine e_iconst (pc := 44) dX4_exchange_44 kc_5 ?_
    refine e_idiv (pc := 45) dX4_exchange_45 (by decide) ?_
    refine e_istore (L' := [some (.ref a0), some (.int a1), some (.int b2), some (.int b3), some (.int b4), some (.int (b4 / (5 : Int32))), none, none, none]) (pc := 46) dX4_exchange_46 (by decide) rfl ?_
    refine e_iload (pc := 48) dX4_exchange_48 rfl ?_
    refine e_iconst (pc := 50) dX4_exchange_50 kc_5 ?_
    refine e_irem (pc := 51) dX4_exchange_51 (by decide) ?_
    refine e_istore (L' := [some (.ref a0), some (.int a1), some (.int b2), some (.int b3), some (.int b4), some (.int (b4 / (5 : Int32))), some (.int (b4 - b4 / (5 : Int32) * (5 : Int32))), none, none]) (pc := 52) dX4_exchange_52 (by decide) rfl ?_
    refine e_iload (pc := 54) dX4_exchange_54 rfl ?_
    refine e_iload (pc := 56) dX4_exchange_56 rfl ?_
    refine e_icmp_ge (pc := 58) (tgt := 132) dX4_exchange_58 (by decide) (fun _ => ?_) (fun _ => ?_)
    · refine e_iinc (L' := [some (.ref a0), some (.int a1), some (.int b2), some (.int b3), some (.int (b4 + 1)), some (.int (b4 / (5 : Int32))), some (.int (b4 - b4 / (5 : Int32) * (5 : Int32))), none, none]) (pc := 132) (v := 1) dX4_exchange_132 (by decide) rfl kc_1 rfl ?_
      refine e_goto (pc := 135) (tgt := 35) dX4_exchange_135 (by decide) ?_
      refine e_forget (L2 := [some (.ref a0), some (.int a1), some (.int b2), some (.int b3), some (.int (b4 + 1)), none, none, none, none]) (And.intro rfl (And.intro rfl (And.intro rfl (And.intro rfl (And.intro rfl trivial))))) ?_
      exact hk35 b2 b3 (b4 + 1) w
    · refine e_aload_n (pc := 61) dX4_exchange_61 rfl rfl ?_
      refine e_getR (pc := 62) dX4_exchange_62 hs_X4_31 (fun r7 => ?_)
      refine e_iload (pc := 65) dX4_exchange_65 rfl ?_
      refine e_iald (pc := 67) dX4_exchange_67 (fun x8 => ?_)
      refine e_istore (L' := [some (.ref a0), some (.int a1), some (.int b2), some (.int b3), some (.int b4), some (.int (b4 / (5 : Int32))), some (.int (b4 - b4 / (5 : Int32) * (5 : Int32))), some (.int x8), none]) (pc := 68) dX4_exchange_68 (by decide) rfl ?_
      refine e_aload_n (pc := 70) dX4_exchange_70 rfl rfl ?_
      refine e_getR (pc := 71) dX4_exchange_71 hs_X4_31 (fun r9 => ?_)
      refine e_iload (pc := 74) dX4_exchange_74 rfl ?_
      refine e_aload_n (pc := 76) dX4_exchange_76 rfl rfl ?_
      refine e_getR (pc := 77) dX4_exchange_77 hs_X4_31 (fun r10 => ?_)
      refine e_iload (pc := 80) dX4_exchange_80 rfl ?_
      refine e_iald (pc := 82) dX4_exchange_82 (fun x11 => ?_)
      refine e_iast (pc := 83) dX4_exchange_83 (fun w12 => ?_)
      refine e_aload_n (pc := 84) dX4_exchange_84 rfl rfl ?_
      refine e_getR (pc := 85) dX4_exchange_85 hs_X4_31 (fun r13 => ?_)
      refine e_iload (pc := 88) dX4_exchange_88 rfl ?_
      refine e_iload (pc := 90) dX4_exchange_90 rfl ?_
      refine e_iast (pc := 92) dX4_exchange_92 (fun w14 => ?_)
      refine e_aload_n (pc := 93) dX4_exchange_93 rfl rfl ?_
      refine e_iload_n (pc := 94) dX4_exchange_94 rfl rfl ?_
      refine e_callV (pc := 95) (av := [.int a1]) (S := []) (c0 := 3) rfl rfl ok_X4_liveThen ⟨Nat.le_of_ble_eq_true rfl, Nat.le_of_ble_eq_true rfl⟩ hv_X4_312 dX4_exchange_95 (s_X4_liveThen a0 a1 w14) rfl rfl (Nat.le_of_ble_eq_true rfl) (fun x16 w15 => ?_)
      refine e_istore (L' := [some (.ref a0), some (.int a1), some (.int b2), some (.int b3), some (.int b4), some (.int (b4 / (5 : Int32))), some (.int (b4 - b4 / (5 : Int32) * (5 : Int32))), some (.int x8), some (.int x16)]) (pc := 98) dX4_exchange_98 (by decide) rfl ?_
      refine e_iload (pc := 100) dX4_exchange_100 rfl ?_
      refine e_iload_n (pc := 102) dX4_exchange_102 rfl rfl ?_
      refine e_icmp_le (pc := 103) (tgt := 117) dX4_exchange_103 (by decide) (fun _ => ?_) (fun _ => ?_)
      · refine e_iload_n (pc := 117) dX4_exchange_117 rfl rfl ?_
        refine e_forget (L2 := [some (.ref a0), some (.int a1), none, some (.int b3), some (.int b4), none, none, none, some (.int x16)]) (And.intro rfl (And.intro rfl (And.intro rfl (And.intro rfl (And.intro rfl trivial))))) ?_
        exact t_X4_exchange_118 a0 a1 k35 hk35 b3 b4 x16 b2 w15
      · refine e_bipush (pc := 106) dX4_exchange_106 kb_10 ?_
        refine e_iload (pc := 108) dX4_exchange_108 rfl ?_
        refine e_imul (pc := 110) dX4_exchange_110 ?_
        refine e_iload (pc := 111) dX4_exchange_111 rfl ?_
        refine e_iadd (pc := 113) dX4_exchange_113 ?_
        refine e_goto (pc := 114) (tgt := 118) dX4_exchange_114 (by decide) ?_
        refine e_forget (L2 := [some (.ref a0), some (.int a1), none, some (.int b3), some (.int b4), none, none, none, some (.int x16)]) (And.intro rfl (And.intro rfl (And.intro rfl (And.intro rfl (And.intro rfl trivial))))) ?_
        exact t_X4_exchange_118 a0 a1 k35 hk35 b3 b4 x16 (((10 : Int32) * (b4 / (5 : Int32))) + (b4 - b4 / (5 : Int32) * (5 : Int32))) w15
def f_X4_exchange (a0 : Nat) (a1 : Int32) (w : aW) : Option (Int32 × aW) :=
  (sF 3 w a0 19 (.int (0 : Int32))).bind fun w1 =>
  bk (f_X4_in a1.toInt64 (0 : Int64) (20 : Int64) w1) fun x3 w2 =>
  if ¬ x3 = (0 : Int32) then
    cV 3 w2 a0 (bk (f_X4_think a0 w2) fun _ w4 =>
    cV 3 w4 a0 (bk (f_X4_liveThen a0 a1 w4) fun x6 w5 =>
    loop4 (c_X4_exchange_35 a0 a1) a_fuel (-4 : Int32) x6 (0 : Int32) w5))
  else
    some ((-1 : Int32), w2)
theorem s_X4_exchange (a0 : Nat) (a1 : Int32) (w : aW) : Sp rvI M_X4_exchange [.ref a0, .int a1] w (f_X4_exchange a0 a1 w) := by
  refine e_entry [some (.ref a0), some (.int a1), none, none, none, none, none, none, none] (by decide +kernel) (Nat.le_of_ble_eq_true rfl) (fun _ => rfl) ?_
  unfold f_X4_exchange
  refine e_aload_n (pc := 0) dX4_exchange_0 rfl rfl ?_
  refine e_iconst (pc := 1) dX4_exchange_1 kc_0 ?_
  refine e_put (pc := 2) dX4_exchange_2 hw_X4_80 (fun _ => rfl) (fun _ => rfl) (fun w1 => ?_)
  refine e_iload_n (pc := 5) dX4_exchange_5 rfl rfl ?_
  refine e_i2l (pc := 6) dX4_exchange_6 ?_
  refine e_lconst (pc := 7) (v := 0) dX4_exchange_7 (by decide) ?_
  refine e_ldc2 (pc := 8) (v := 20) dX4_exchange_8 (a_in 1280 (by decide +kernel) rfl) ?_
  refine e_callS (pc := 11) (av := [.long a1.toInt64, .long (0 : Int64), .long (20 : Int64)]) (S := []) ok_X4_in ⟨Nat.le_of_ble_eq_true rfl, Nat.le_of_ble_eq_true rfl⟩ ht_X4_86 dX4_exchange_11 (s_X4_in a1.toInt64 (0 : Int64) (20 : Int64) w1) rfl rfl (Nat.le_of_ble_eq_true rfl) (fun x3 w2 => ?_)
  refine e_if_ne (pc := 14) (tgt := 19) dX4_exchange_14 (by decide) (fun _ => ?_) (fun _ => ?_)
  · refine e_bipush (pc := 19) dX4_exchange_19 kb_m4 ?_
    refine e_istore_n (L' := [some (.ref a0), some (.int a1), some (.int (-4 : Int32)), none, none, none, none, none, none]) (pc := 21) dX4_exchange_21 rfl (by decide) rfl ?_
    refine e_aload_n (pc := 22) dX4_exchange_22 rfl rfl ?_
    refine e_callV (pc := 23) (av := []) (S := []) (c0 := 3) rfl rfl ok_X4_think ⟨Nat.le_of_ble_eq_true rfl, Nat.le_of_ble_eq_true rfl⟩ hv_X4_221 dX4_exchange_23 (s_X4_think a0 w2) rfl rfl (Nat.le_of_ble_eq_true rfl) (fun _ w4 => ?_)
    refine e_aload_n (pc := 26) dX4_exchange_26 rfl rfl ?_
    refine e_iload_n (pc := 27) dX4_exchange_27 rfl rfl ?_
    refine e_callV (pc := 28) (av := [.int a1]) (S := []) (c0 := 3) rfl rfl ok_X4_liveThen ⟨Nat.le_of_ble_eq_true rfl, Nat.le_of_ble_eq_true rfl⟩ hv_X4_312 dX4_exchange_28 (s_X4_liveThen a0 a1 w4) rfl rfl (Nat.le_of_ble_eq_true rfl) (fun x6 w5 => ?_)
    refine e_istore_n (L' := [some (.ref a0), some (.int a1), some (.int (-4 : Int32)), some (.int x6), none, none, none, none, none]) (pc := 31) dX4_exchange_31 rfl (by decide) rfl ?_
    refine e_iconst (pc := 32) dX4_exchange_32 kc_0 ?_
    refine e_istore (L' := [some (.ref a0), some (.int a1), some (.int (-4 : Int32)), some (.int x6), some (.int (0 : Int32)), none, none, none, none]) (pc := 33) dX4_exchange_33 (by decide) rfl ?_
    exact e_loop4 (L := fun b2 b3 b4 => [some (.ref a0), some (.int a1), some (.int b2), some (.int b3), some (.int b4), none, none, none, none]) (S := fun b2 b3 b4 => []) (fun kf hkf => t_X4_exchange_35 a0 a1  kf hkf) _ (-4 : Int32) x6 (0 : Int32) w5
  · refine e_iconst (pc := 17) dX4_exchange_17 kc_m1 ?_
    exact e_iret (pc := 18) dX4_exchange_18 rfl rfl
def M_X4_teach : aM := (yX4_teach, cX4_teach, 8, (some .int), 7, 158)
theorem ok_X4_teach : a_okM M_X4_teach 3 := ⟨⟨by decide +kernel, by decide +kernel⟩, by decide +kernel, a_in 1300 (by decide +kernel) rfl, a_in 79 (by decide +kernel) rfl⟩
theorem dX4_teach_0 : decode M_X4_teach.2.1 0 = .ok (.aload_n 0, 1) := by decide +kernel
theorem dX4_teach_1 : decode M_X4_teach.2.1 1 = .ok (.iconst 0, 1) := by decide +kernel
theorem dX4_teach_2 : decode M_X4_teach.2.1 2 = .ok (.putfield 80, 3) := by decide +kernel
theorem dX4_teach_5 : decode M_X4_teach.2.1 5 = .ok (.iload_n 1, 1) := by decide +kernel
theorem dX4_teach_6 : decode M_X4_teach.2.1 6 = .ok (.invokestatic 188, 3) := by decide +kernel
theorem dX4_teach_9 : decode M_X4_teach.2.1 9 = .ok (.ifCond .eq 25, 3) := by decide +kernel
theorem dX4_teach_12 : decode M_X4_teach.2.1 12 = .ok (.iload_n 2, 1) := by decide +kernel
theorem dX4_teach_13 : decode M_X4_teach.2.1 13 = .ok (.i2l, 1) := by decide +kernel
theorem dX4_teach_14 : decode M_X4_teach.2.1 14 = .ok (.lconst 0, 1) := by decide +kernel
theorem dX4_teach_15 : decode M_X4_teach.2.1 15 = .ok (.ldc2_w 294, 3) := by decide +kernel
theorem dX4_teach_18 : decode M_X4_teach.2.1 18 = .ok (.invokestatic 86, 3) := by decide +kernel
theorem dX4_teach_21 : decode M_X4_teach.2.1 21 = .ok (.ifCond .eq 13, 3) := by decide +kernel
theorem dX4_teach_24 : decode M_X4_teach.2.1 24 = .ok (.iload_n 3, 1) := by decide +kernel
theorem dX4_teach_25 : decode M_X4_teach.2.1 25 = .ok (.i2l, 1) := by decide +kernel
theorem dX4_teach_26 : decode M_X4_teach.2.1 26 = .ok (.lconst 0, 1) := by decide +kernel
theorem dX4_teach_27 : decode M_X4_teach.2.1 27 = .ok (.lconst 1, 1) := by decide +kernel
theorem dX4_teach_28 : decode M_X4_teach.2.1 28 = .ok (.invokestatic 86, 3) := by decide +kernel
theorem dX4_teach_31 : decode M_X4_teach.2.1 31 = .ok (.ifCond .ne 5, 3) := by decide +kernel
theorem dX4_teach_34 : decode M_X4_teach.2.1 34 = .ok (.iconst (-1), 1) := by decide +kernel
theorem dX4_teach_35 : decode M_X4_teach.2.1 35 = .ok (.ireturn, 1) := by decide +kernel
theorem dX4_teach_36 : decode M_X4_teach.2.1 36 = .ok (.iconst 0, 1) := by decide +kernel
theorem dX4_teach_37 : decode M_X4_teach.2.1 37 = .ok (.istore 4, 2) := by decide +kernel
theorem dX4_teach_39 : decode M_X4_teach.2.1 39 = .ok (.iconst (-1), 1) := by decide +kernel
theorem dX4_teach_40 : decode M_X4_teach.2.1 40 = .ok (.istore 5, 2) := by decide +kernel
theorem dX4_teach_42 : decode M_X4_teach.2.1 42 = .ok (.aload_n 0, 1) := by decide +kernel
theorem dX4_teach_43 : decode M_X4_teach.2.1 43 = .ok (.invokevirtual 221, 3) := by decide +kernel
theorem dX4_teach_46 : decode M_X4_teach.2.1 46 = .ok (.iconst 0, 1) := by decide +kernel
theorem dX4_teach_47 : decode M_X4_teach.2.1 47 = .ok (.istore 6, 2) := by decide +kernel
theorem dX4_teach_49 : decode M_X4_teach.2.1 49 = .ok (.iload 6, 2) := by decide +kernel
theorem dX4_teach_51 : decode M_X4_teach.2.1 51 = .ok (.iconst 4, 1) := by decide +kernel
theorem dX4_teach_52 : decode M_X4_teach.2.1 52 = .ok (.if_icmp .ge 57, 3) := by decide +kernel
theorem dX4_teach_55 : decode M_X4_teach.2.1 55 = .ok (.aload_n 0, 1) := by decide +kernel
theorem dX4_teach_56 : decode M_X4_teach.2.1 56 = .ok (.getfield 31, 3) := by decide +kernel
theorem dX4_teach_59 : decode M_X4_teach.2.1 59 = .ok (.iload_n 1, 1) := by decide +kernel
theorem dX4_teach_60 : decode M_X4_teach.2.1 60 = .ok (.iload 6, 2) := by decide +kernel
theorem dX4_teach_62 : decode M_X4_teach.2.1 62 = .ok (.iastore, 1) := by decide +kernel
theorem dX4_teach_63 : decode M_X4_teach.2.1 63 = .ok (.aload_n 0, 1) := by decide +kernel
theorem dX4_teach_64 : decode M_X4_teach.2.1 64 = .ok (.iload_n 1, 1) := by decide +kernel
theorem dX4_teach_65 : decode M_X4_teach.2.1 65 = .ok (.iload_n 2, 1) := by decide +kernel
theorem dX4_teach_66 : decode M_X4_teach.2.1 66 = .ok (.invokevirtual 296, 3) := by decide +kernel
theorem dX4_teach_69 : decode M_X4_teach.2.1 69 = .ok (.istore 7, 2) := by decide +kernel
theorem dX4_teach_71 : decode M_X4_teach.2.1 71 = .ok (.iload 7, 2) := by decide +kernel
theorem dX4_teach_73 : decode M_X4_teach.2.1 73 = .ok (.iload 5, 2) := by decide +kernel
theorem dX4_teach_75 : decode M_X4_teach.2.1 75 = .ok (.if_icmp .le 8, 3) := by decide +kernel
theorem dX4_teach_78 : decode M_X4_teach.2.1 78 = .ok (.iload 6, 2) := by decide +kernel
theorem dX4_teach_80 : decode M_X4_teach.2.1 80 = .ok (.goto 5, 3) := by decide +kernel
theorem dX4_teach_83 : decode M_X4_teach.2.1 83 = .ok (.iload 4, 2) := by decide +kernel
theorem dX4_teach_85 : decode M_X4_teach.2.1 85 = .ok (.istore 4, 2) := by decide +kernel
theorem dX4_teach_87 : decode M_X4_teach.2.1 87 = .ok (.iload 7, 2) := by decide +kernel
theorem dX4_teach_89 : decode M_X4_teach.2.1 89 = .ok (.iload 5, 2) := by decide +kernel
theorem dX4_teach_91 : decode M_X4_teach.2.1 91 = .ok (.if_icmp .le 8, 3) := by decide +kernel
theorem dX4_teach_94 : decode M_X4_teach.2.1 94 = .ok (.iload 7, 2) := by decide +kernel
theorem dX4_teach_96 : decode M_X4_teach.2.1 96 = .ok (.goto 5, 3) := by decide +kernel
theorem dX4_teach_99 : decode M_X4_teach.2.1 99 = .ok (.iload 5, 2) := by decide +kernel
theorem dX4_teach_101 : decode M_X4_teach.2.1 101 = .ok (.istore 5, 2) := by decide +kernel
theorem dX4_teach_103 : decode M_X4_teach.2.1 103 = .ok (.iinc 6 1, 3) := by decide +kernel
theorem dX4_teach_106 : decode M_X4_teach.2.1 106 = .ok (.goto (-57), 3) := by decide +kernel
theorem dX4_teach_109 : decode M_X4_teach.2.1 109 = .ok (.iload_n 3, 1) := by decide +kernel
theorem dX4_teach_110 : decode M_X4_teach.2.1 110 = .ok (.ifCond .ne 8, 3) := by decide +kernel
theorem dX4_teach_113 : decode M_X4_teach.2.1 113 = .ok (.iload 4, 2) := by decide +kernel
theorem dX4_teach_115 : decode M_X4_teach.2.1 115 = .ok (.goto 5, 3) := by decide +kernel
theorem dX4_teach_118 : decode M_X4_teach.2.1 118 = .ok (.iload 5, 2) := by decide +kernel
theorem dX4_teach_120 : decode M_X4_teach.2.1 120 = .ok (.ireturn, 1) := by decide +kernel
def c_X4_teach_85 (a0 : Nat) (a1 : Int32) (a2 : Int32) (a3 : Int32) (k49 : Int32 → Int32 → Int32 → aW → Option (Int32 × aW)) (b5 : Int32) (b6 : Int32) (b7 : Int32) (s0 : Int32) (w : aW) : Option (Int32 × aW) :=
  if b7 ≤ b5 then
    k49 s0 b5 (b6 + 1) w
  else
    k49 s0 b7 (b6 + 1) w
theorem t_X4_teach_85 (a0 : Nat) (a1 : Int32) (a2 : Int32) (a3 : Int32) (k49 : Int32 → Int32 → Int32 → aW → Option (Int32 × aW)) (hk49 : ∀ (b4 : Int32) (b5 : Int32) (b6 : Int32) (w : aW), Ev rvI M_X4_teach 49 [some (.ref a0), some (.int a1), some (.int a2), some (.int a3), some (.int b4), some (.int b5), some (.int b6), none] [] w (k49 b4 b5 b6 w)) (b5 : Int32) (b6 : Int32) (b7 : Int32) (s0 : Int32) (w : aW) : Ev rvI M_X4_teach 85 [some (.ref a0), some (.int a1), some (.int a2), some (.int a3), none, some (.int b5), some (.int b6), some (.int b7)] [.int s0] w (c_X4_teach_85 a0 a1 a2 a3 k49 b5 b6 b7 s0 w) := by
  unfold c_X4_teach_85
  refine e_istore (L' := [some (.ref a0), some (.int a1), some (.int a2), some (.int a3), some (.int s0), some (.int b5), some (.int b6), some (.int b7)]) (pc := 85) dX4_teach_85 (by decide) rfl ?_
  refine e_iload (pc := 87) dX4_teach_87 rfl ?_
  refine e_iload (pc := 89) dX4_teach_89 rfl ?_
  refine e_icmp_le (pc := 91) (tgt := 99) dX4_teach_91 (by decide) (fun _ => ?_) (fun _ => ?_)
  · refine e_iload (pc := 99) dX4_teach_99 rfl ?_
    refine e_istore (L' := [some (.ref a0), some (.int a1), some (.int a2), some (.int a3), some (.int s0), some (.int b5), some (.int b6), some (.int b7)]) (pc := 101) dX4_teach_101 (by decide) rfl ?_
    refine e_iinc (L' := [some (.ref a0), some (.int a1), some (.int a2), some (.int a3), some (.int s0), some (.int b5), some (.int (b6 + 1)), some (.int b7)]) (pc := 103) (v := 1) dX4_teach_103 (by decide) rfl kc_1 rfl ?_
    refine e_goto (pc := 106) (tgt := 49) dX4_teach_106 (by decide) ?_
    refine e_forget (L2 := [some (.ref a0), some (.int a1), some (.int a2), some (.int a3), some (.int s0), some (.int b5), some (.int (b6 + 1)), none]) (And.intro rfl (And.intro rfl (And.intro rfl (And.intro rfl (And.intro rfl (And.intro rfl (And.intro rfl trivial))))))) ?_
    exact hk49 s0 b5 (b6 + 1) w
  · refine e_iload (pc := 94) dX4_teach_94 rfl ?_
    refine e_goto (pc := 96) (tgt := 101) dX4_teach_96 (by decide) ?_
    refine e_istore (L' := [some (.ref a0), some (.int a1), some (.int a2), some (.int a3), some (.int s0), some (.int b7), some (.int b6), some (.int b7)]) (pc := 101) dX4_teach_101 (by decide) rfl ?_
    refine e_iinc (L' := [some (.ref a0), some (.int a1), some (.int a2), some (.int a3), some (.int s0), some (.int b7), some (.int (b6 + 1)), some (.int b7)]) (pc := 103) (v := 1) dX4_teach_103 (by decide) rfl kc_1 rfl ?_
    refine e_goto (pc := 106) (tgt := 49) dX4_teach_106 (by decide) ?_
    refine e_forget (L2 := [some (.ref a0), some (.int a1), some (.int a2), some (.int a3), some (.int s0), some (.int b7), some (.int (b6 + 1)), none]) (And.intro rfl (And.intro rfl (And.intro rfl (And.intro rfl (And.intro rfl (And.intro rfl (And.intro rfl trivial))))))) ?_
    exact hk49 s0 b7 (b6 + 1) w
def c_X4_teach_49 (a0 : Nat) (a1 : Int32) (a2 : Int32) (a3 : Int32) (k49 : Int32 → Int32 → Int32 → aW → Option (Int32 × aW)) (b4 : Int32) (b5 : Int32) (b6 : Int32) (w : aW) : Option (Int32 × aW) :=
  if (4 : Int32) ≤ b6 then
    if ¬ a3 = (0 : Int32) then
      some (b5, w)
    else
      some (b4, w)
  else
    (gR 3 w a0 9).bind fun r9 =>
    (sA w r9 a1 b6).bind fun w10 =>
    cV 3 w10 a0 (bk (f_X4_meansThen a0 a1 a2 w10) fun x12 w11 =>
    if x12 ≤ b5 then
      c_X4_teach_85 a0 a1 a2 a3 k49 b5 b6 x12 b4 w11
    else
      c_X4_teach_85 a0 a1 a2 a3 k49 b5 b6 x12 b6 w11)
theorem t_X4_teach_49 (a0 : Nat) (a1 : Int32) (a2 : Int32) (a3 : Int32) (k49 : Int32 → Int32 → Int32 → aW → Option (Int32 × aW)) (hk49 : ∀ (b4 : Int32) (b5 : Int32) (b6 : Int32) (w : aW), Ev rvI M_X4_teach 49 [some (.ref a0), some (.int a1), some (.int a2), some (.int a3), some (.int b4), some (.int b5), some (.int b6), none] [] w (k49 b4 b5 b6 w)) (b4 : Int32) (b5 : Int32) (b6 : Int32) (w : aW) : Ev rvI M_X4_teach 49 [some (.ref a0), some (.int a1), some (.int a2), some (.int a3), some (.int b4), some (.int b5), some (.int b6), none] [] w (c_X4_teach_49 a0 a1 a2 a3 k49 b4 b5 b6 w) := by
  unfold c_X4_teach_49
  refine e_iload (pc := 49) dX4_teach_49 rfl ?_
  refine e_iconst (pc := 51) dX4_teach_51 kc_4 ?_
  refine e_icmp_ge (pc := 52) (tgt := 109) dX4_teach_52 (by decide) (fun _ => ?_) (fun _ => ?_)
  · refine e_iload_n (pc := 109) dX4_teach_109 rfl rfl ?_
    refine e_if_ne (pc := 110) (tgt := 118) dX4_teach_110 (by decide) (fun _ => ?_) (fun _ => ?_)
    · refine e_iload (pc := 118) dX4_teach_118 rfl ?_
      exact e_iret (pc := 120) dX4_teach_120 rfl rfl
    · refine e_iload (pc := 113) dX4_teach_113 rfl ?_
      refine e_goto (pc := 115) (tgt := 120) dX4_teach_115 (by decide) ?_
      exact e_iret (pc := 120) dX4_teach_120 rfl rfl
  · refine e_aload_n (pc := 55) dX4_teach_55 rfl rfl ?_
    refine e_getR (pc := 56) dX4_teach_56 hs_X4_31 (fun r9 => ?_)
    refine e_iload_n (pc := 59) dX4_teach_59 rfl rfl ?_
    refine e_iload (pc := 60) dX4_teach_60 rfl ?_
    refine e_iast (pc := 62) dX4_teach_62 (fun w10 => ?_)
    refine e_aload_n (pc := 63) dX4_teach_63 rfl rfl ?_
    refine e_iload_n (pc := 64) dX4_teach_64 rfl rfl ?_
    refine e_iload_n (pc := 65) dX4_teach_65 rfl rfl ?_
    refine e_callV (pc := 66) (av := [.int a1, .int a2]) (S := []) (c0 := 3) rfl rfl ok_X4_meansThen ⟨Nat.le_of_ble_eq_true rfl, Nat.le_of_ble_eq_true rfl⟩ hv_X4_296 dX4_teach_66 (s_X4_meansThen a0 a1 a2 w10) rfl rfl (Nat.le_of_ble_eq_true rfl) (fun x12 w11 => ?_)
    refine e_istore (L' := [some (.ref a0), some (.int a1), some (.int a2), some (.int a3), some (.int b4), some (.int b5), some (.int b6), some (.int x12)]) (pc := 69) dX4_teach_69 (by decide) rfl ?_
    refine e_iload (pc := 71) dX4_teach_71 rfl ?_
    refine e_iload (pc := 73) dX4_teach_73 rfl ?_
    refine e_icmp_le (pc := 75) (tgt := 83) dX4_teach_75 (by decide) (fun _ => ?_) (fun _ => ?_)
    · refine e_iload (pc := 83) dX4_teach_83 rfl ?_
      refine e_forget (L2 := [some (.ref a0), some (.int a1), some (.int a2), some (.int a3), none, some (.int b5), some (.int b6), some (.int x12)]) (And.intro rfl (And.intro rfl (And.intro rfl (And.intro rfl (And.intro rfl (And.intro rfl (And.intro rfl trivial))))))) ?_
      exact t_X4_teach_85 a0 a1 a2 a3 k49 hk49 b5 b6 x12 b4 w11
    · refine e_iload (pc := 78) dX4_teach_78 rfl ?_
      refine e_goto (pc := 80) (tgt := 85) dX4_teach_80 (by decide) ?_
      refine e_forget (L2 := [some (.ref a0), some (.int a1), some (.int a2), some (.int a3), none, some (.int b5), some (.int b6), some (.int x12)]) (And.intro rfl (And.intro rfl (And.intro rfl (And.intro rfl (And.intro rfl (And.intro rfl (And.intro rfl trivial))))))) ?_
      exact t_X4_teach_85 a0 a1 a2 a3 k49 hk49 b5 b6 x12 b6 w11
def f_X4_teach (a0 : Nat) (a1 : Int32) (a2 : Int32) (a3 : Int32) (w : aW) : Option (Int32 × aW) :=
  (sF 3 w a0 19 (.int (0 : Int32))).bind fun w1 =>
  bk (f_X4_isPerson a1 w1) fun x3 w2 =>
  if x3 = (0 : Int32) then
    some ((-1 : Int32), w2)
  else
    bk (f_X4_in a2.toInt64 (0 : Int64) (30 : Int64) w2) fun x5 w4 =>
    if x5 = (0 : Int32) then
      some ((-1 : Int32), w4)
    else
      bk (f_X4_in a3.toInt64 (0 : Int64) (1 : Int64) w4) fun x7 w6 =>
      if ¬ x7 = (0 : Int32) then
        cV 3 w6 a0 (bk (f_X4_think a0 w6) fun _ w8 =>
        loop4 (c_X4_teach_49 a0 a1 a2 a3) a_fuel (0 : Int32) (-1 : Int32) (0 : Int32) w8)
      else
        some ((-1 : Int32), w6)
theorem s_X4_teach (a0 : Nat) (a1 : Int32) (a2 : Int32) (a3 : Int32) (w : aW) : Sp rvI M_X4_teach [.ref a0, .int a1, .int a2, .int a3] w (f_X4_teach a0 a1 a2 a3 w) := by
  refine e_entry [some (.ref a0), some (.int a1), some (.int a2), some (.int a3), none, none, none, none] (by decide +kernel) (Nat.le_of_ble_eq_true rfl) (fun _ => rfl) ?_
  unfold f_X4_teach
  refine e_aload_n (pc := 0) dX4_teach_0 rfl rfl ?_
  refine e_iconst (pc := 1) dX4_teach_1 kc_0 ?_
  refine e_put (pc := 2) dX4_teach_2 hw_X4_80 (fun _ => rfl) (fun _ => rfl) (fun w1 => ?_)
  refine e_iload_n (pc := 5) dX4_teach_5 rfl rfl ?_
  refine e_callS (pc := 6) (av := [.int a1]) (S := []) ok_X4_isPerson ⟨Nat.le_of_ble_eq_true rfl, Nat.le_of_ble_eq_true rfl⟩ ht_X4_188 dX4_teach_6 (s_X4_isPerson a1 w1) rfl rfl (Nat.le_of_ble_eq_true rfl) (fun x3 w2 => ?_)
  refine e_if_eq (pc := 9) (tgt := 34) dX4_teach_9 (by decide) (fun _ => ?_) (fun _ => ?_)
  · refine e_iconst (pc := 34) dX4_teach_34 kc_m1 ?_
    exact e_iret (pc := 35) dX4_teach_35 rfl rfl
  · refine e_iload_n (pc := 12) dX4_teach_12 rfl rfl ?_
    refine e_i2l (pc := 13) dX4_teach_13 ?_
    refine e_lconst (pc := 14) (v := 0) dX4_teach_14 (by decide) ?_
    refine e_ldc2 (pc := 15) (v := 30) dX4_teach_15 (a_in 1254 (by decide +kernel) rfl) ?_
    refine e_callS (pc := 18) (av := [.long a2.toInt64, .long (0 : Int64), .long (30 : Int64)]) (S := []) ok_X4_in ⟨Nat.le_of_ble_eq_true rfl, Nat.le_of_ble_eq_true rfl⟩ ht_X4_86 dX4_teach_18 (s_X4_in a2.toInt64 (0 : Int64) (30 : Int64) w2) rfl rfl (Nat.le_of_ble_eq_true rfl) (fun x5 w4 => ?_)
    refine e_if_eq (pc := 21) (tgt := 34) dX4_teach_21 (by decide) (fun _ => ?_) (fun _ => ?_)
    · refine e_iconst (pc := 34) dX4_teach_34 kc_m1 ?_
      exact e_iret (pc := 35) dX4_teach_35 rfl rfl
    · refine e_iload_n (pc := 24) dX4_teach_24 rfl rfl ?_
      refine e_i2l (pc := 25) dX4_teach_25 ?_
      refine e_lconst (pc := 26) (v := 0) dX4_teach_26 (by decide) ?_
      refine e_lconst (pc := 27) (v := 1) dX4_teach_27 (by decide) ?_
      refine e_callS (pc := 28) (av := [.long a3.toInt64, .long (0 : Int64), .long (1 : Int64)]) (S := []) ok_X4_in ⟨Nat.le_of_ble_eq_true rfl, Nat.le_of_ble_eq_true rfl⟩ ht_X4_86 dX4_teach_28 (s_X4_in a3.toInt64 (0 : Int64) (1 : Int64) w4) rfl rfl (Nat.le_of_ble_eq_true rfl) (fun x7 w6 => ?_)
      refine e_if_ne (pc := 31) (tgt := 36) dX4_teach_31 (by decide) (fun _ => ?_) (fun _ => ?_)
      · refine e_iconst (pc := 36) dX4_teach_36 kc_0 ?_
        refine e_istore (L' := [some (.ref a0), some (.int a1), some (.int a2), some (.int a3), some (.int (0 : Int32)), none, none, none]) (pc := 37) dX4_teach_37 (by decide) rfl ?_
        refine e_iconst (pc := 39) dX4_teach_39 kc_m1 ?_
        refine e_istore (L' := [some (.ref a0), some (.int a1), some (.int a2), some (.int a3), some (.int (0 : Int32)), some (.int (-1 : Int32)), none, none]) (pc := 40) dX4_teach_40 (by decide) rfl ?_
        refine e_aload_n (pc := 42) dX4_teach_42 rfl rfl ?_
        refine e_callV (pc := 43) (av := []) (S := []) (c0 := 3) rfl rfl ok_X4_think ⟨Nat.le_of_ble_eq_true rfl, Nat.le_of_ble_eq_true rfl⟩ hv_X4_221 dX4_teach_43 (s_X4_think a0 w6) rfl rfl (Nat.le_of_ble_eq_true rfl) (fun _ w8 => ?_)
        refine e_iconst (pc := 46) dX4_teach_46 kc_0 ?_
        refine e_istore (L' := [some (.ref a0), some (.int a1), some (.int a2), some (.int a3), some (.int (0 : Int32)), some (.int (-1 : Int32)), some (.int (0 : Int32)), none]) (pc := 47) dX4_teach_47 (by decide) rfl ?_
        exact e_loop4 (L := fun b4 b5 b6 => [some (.ref a0), some (.int a1), some (.int a2), some (.int a3), some (.int b4), some (.int b5), some (.int b6), none]) (S := fun b4 b5 b6 => []) (fun kf hkf => t_X4_teach_49 a0 a1 a2 a3  kf hkf) _ (0 : Int32) (-1 : Int32) (0 : Int32) w8
      · refine e_iconst (pc := 34) dX4_teach_34 kc_m1 ?_
        exact e_iret (pc := 35) dX4_teach_35 rfl rfl
def M_X4_loudest : aM := (yX4_loudest, cX4_loudest, 3, (some .int), 1, 23)
theorem ok_X4_loudest : a_okM M_X4_loudest 0 := ⟨⟨by decide +kernel, by decide +kernel⟩, by decide +kernel, a_in 1308 (by decide +kernel) rfl, a_in 79 (by decide +kernel) rfl⟩
theorem dX4_loudest_0 : decode M_X4_loudest.2.1 0 = .ok (.iconst 0, 1) := by decide +kernel
theorem dX4_loudest_1 : decode M_X4_loudest.2.1 1 = .ok (.istore_n 1, 1) := by decide +kernel
theorem dX4_loudest_2 : decode M_X4_loudest.2.1 2 = .ok (.iconst 1, 1) := by decide +kernel
theorem dX4_loudest_3 : decode M_X4_loudest.2.1 3 = .ok (.istore_n 2, 1) := by decide +kernel
theorem dX4_loudest_4 : decode M_X4_loudest.2.1 4 = .ok (.iload_n 2, 1) := by decide +kernel
theorem dX4_loudest_5 : decode M_X4_loudest.2.1 5 = .ok (.iconst 5, 1) := by decide +kernel
theorem dX4_loudest_6 : decode M_X4_loudest.2.1 6 = .ok (.if_icmp .ge 34, 3) := by decide +kernel
theorem dX4_loudest_9 : decode M_X4_loudest.2.1 9 = .ok (.aload_n 0, 1) := by decide +kernel
theorem dX4_loudest_10 : decode M_X4_loudest.2.1 10 = .ok (.iload_n 2, 1) := by decide +kernel
theorem dX4_loudest_11 : decode M_X4_loudest.2.1 11 = .ok (.invokevirtual 253, 3) := by decide +kernel
theorem dX4_loudest_14 : decode M_X4_loudest.2.1 14 = .ok (.invokestatic 271, 3) := by decide +kernel
theorem dX4_loudest_17 : decode M_X4_loudest.2.1 17 = .ok (.aload_n 0, 1) := by decide +kernel
theorem dX4_loudest_18 : decode M_X4_loudest.2.1 18 = .ok (.iload_n 1, 1) := by decide +kernel
theorem dX4_loudest_19 : decode M_X4_loudest.2.1 19 = .ok (.invokevirtual 253, 3) := by decide +kernel
theorem dX4_loudest_22 : decode M_X4_loudest.2.1 22 = .ok (.invokestatic 271, 3) := by decide +kernel
theorem dX4_loudest_25 : decode M_X4_loudest.2.1 25 = .ok (.if_icmp .le 7, 3) := by decide +kernel
theorem dX4_loudest_28 : decode M_X4_loudest.2.1 28 = .ok (.iload_n 2, 1) := by decide +kernel
theorem dX4_loudest_29 : decode M_X4_loudest.2.1 29 = .ok (.goto 4, 3) := by decide +kernel
theorem dX4_loudest_32 : decode M_X4_loudest.2.1 32 = .ok (.iload_n 1, 1) := by decide +kernel
theorem dX4_loudest_33 : decode M_X4_loudest.2.1 33 = .ok (.istore_n 1, 1) := by decide +kernel
theorem dX4_loudest_34 : decode M_X4_loudest.2.1 34 = .ok (.iinc 2 1, 3) := by decide +kernel
theorem dX4_loudest_37 : decode M_X4_loudest.2.1 37 = .ok (.goto (-33), 3) := by decide +kernel
theorem dX4_loudest_40 : decode M_X4_loudest.2.1 40 = .ok (.iload_n 1, 1) := by decide +kernel
theorem dX4_loudest_41 : decode M_X4_loudest.2.1 41 = .ok (.ireturn, 1) := by decide +kernel
def c_X4_loudest_4 (a0 : Nat) (k4 : Int32 → Int32 → aW → Option (Int32 × aW)) (b1 : Int32) (b2 : Int32) (w : aW) : Option (Int32 × aW) :=
  if (5 : Int32) ≤ b2 then
    some (b1, w)
  else
    cV 3 w a0 (bk (f_X4_calledBits a0 b2 w) fun x2 w1 =>
    bk (f_X4_onesOf x2 w1) fun x4 w3 =>
    cV 3 w3 a0 (bk (f_X4_calledBits a0 b1 w3) fun x6 w5 =>
    bk (f_X4_onesOf x6 w5) fun x8 w7 =>
    if x4 ≤ x8 then
      k4 b1 (b2 + 1) w7
    else
      k4 b2 (b2 + 1) w7))
theorem t_X4_loudest_4 (a0 : Nat) (k4 : Int32 → Int32 → aW → Option (Int32 × aW)) (hk4 : ∀ (b1 : Int32) (b2 : Int32) (w : aW), Ev rvI M_X4_loudest 4 [some (.ref a0), some (.int b1), some (.int b2)] [] w (k4 b1 b2 w)) (b1 : Int32) (b2 : Int32) (w : aW) : Ev rvI M_X4_loudest 4 [some (.ref a0), some (.int b1), some (.int b2)] [] w (c_X4_loudest_4 a0 k4 b1 b2 w) := by
  unfold c_X4_loudest_4
  refine e_iload_n (pc := 4) dX4_loudest_4 rfl rfl ?_
  refine e_iconst (pc := 5) dX4_loudest_5 kc_5 ?_
  refine e_icmp_ge (pc := 6) (tgt := 40) dX4_loudest_6 (by decide) (fun _ => ?_) (fun _ => ?_)
  · refine e_iload_n (pc := 40) dX4_loudest_40 rfl rfl ?_
    exact e_iret (pc := 41) dX4_loudest_41 rfl rfl
  · refine e_aload_n (pc := 9) dX4_loudest_9 rfl rfl ?_
    refine e_iload_n (pc := 10) dX4_loudest_10 rfl rfl ?_
    refine e_callV (pc := 11) (av := [.int b2]) (S := []) (c0 := 3) rfl rfl ok_X4_calledBits ⟨Nat.le_of_ble_eq_true rfl, Nat.le_of_ble_eq_true rfl⟩ hv_X4_253 dX4_loudest_11 (s_X4_calledBits a0 b2 w) rfl rfl (Nat.le_of_ble_eq_true rfl) (fun x2 w1 => ?_)
    refine e_callS (pc := 14) (av := [.int x2]) (S := []) ok_X4_onesOf ⟨Nat.le_of_ble_eq_true rfl, Nat.le_of_ble_eq_true rfl⟩ ht_X4_271 dX4_loudest_14 (s_X4_onesOf x2 w1) rfl rfl (Nat.le_of_ble_eq_true rfl) (fun x4 w3 => ?_)
    refine e_aload_n (pc := 17) dX4_loudest_17 rfl rfl ?_
    refine e_iload_n (pc := 18) dX4_loudest_18 rfl rfl ?_
    refine e_callV (pc := 19) (av := [.int b1]) (S := [.int x4]) (c0 := 3) rfl rfl ok_X4_calledBits ⟨Nat.le_of_ble_eq_true rfl, Nat.le_of_ble_eq_true rfl⟩ hv_X4_253 dX4_loudest_19 (s_X4_calledBits a0 b1 w3) rfl rfl (Nat.le_of_ble_eq_true rfl) (fun x6 w5 => ?_)
    refine e_callS (pc := 22) (av := [.int x6]) (S := [.int x4]) ok_X4_onesOf ⟨Nat.le_of_ble_eq_true rfl, Nat.le_of_ble_eq_true rfl⟩ ht_X4_271 dX4_loudest_22 (s_X4_onesOf x6 w5) rfl rfl (Nat.le_of_ble_eq_true rfl) (fun x8 w7 => ?_)
    refine e_icmp_le (pc := 25) (tgt := 32) dX4_loudest_25 (by decide) (fun _ => ?_) (fun _ => ?_)
    · refine e_iload_n (pc := 32) dX4_loudest_32 rfl rfl ?_
      refine e_istore_n (L' := [some (.ref a0), some (.int b1), some (.int b2)]) (pc := 33) dX4_loudest_33 rfl (by decide) rfl ?_
      refine e_iinc (L' := [some (.ref a0), some (.int b1), some (.int (b2 + 1))]) (pc := 34) (v := 1) dX4_loudest_34 (by decide) rfl kc_1 rfl ?_
      refine e_goto (pc := 37) (tgt := 4) dX4_loudest_37 (by decide) ?_
      exact hk4 b1 (b2 + 1) w7
    · refine e_iload_n (pc := 28) dX4_loudest_28 rfl rfl ?_
      refine e_goto (pc := 29) (tgt := 33) dX4_loudest_29 (by decide) ?_
      refine e_istore_n (L' := [some (.ref a0), some (.int b2), some (.int b2)]) (pc := 33) dX4_loudest_33 rfl (by decide) rfl ?_
      refine e_iinc (L' := [some (.ref a0), some (.int b2), some (.int (b2 + 1))]) (pc := 34) (v := 1) dX4_loudest_34 (by decide) rfl kc_1 rfl ?_
      refine e_goto (pc := 37) (tgt := 4) dX4_loudest_37 (by decide) ?_
      exact hk4 b2 (b2 + 1) w7
def f_X4_loudest (a0 : Nat) (w : aW) : Option (Int32 × aW) :=
  loop3 (c_X4_loudest_4 a0) a_fuel (0 : Int32) (1 : Int32) w
theorem s_X4_loudest (a0 : Nat) (w : aW) : Sp rvI M_X4_loudest [.ref a0] w (f_X4_loudest a0 w) := by
  refine e_entry [some (.ref a0), none, none] (by decide +kernel) (Nat.le_of_ble_eq_true rfl) (fun _ => rfl) ?_
  unfold f_X4_loudest
  refine e_iconst (pc := 0) dX4_loudest_0 kc_0 ?_
  refine e_istore_n (L' := [some (.ref a0), some (.int (0 : Int32)), none]) (pc := 1) dX4_loudest_1 rfl (by decide) rfl ?_
  refine e_iconst (pc := 2) dX4_loudest_2 kc_1 ?_
  refine e_istore_n (L' := [some (.ref a0), some (.int (0 : Int32)), some (.int (1 : Int32))]) (pc := 3) dX4_loudest_3 rfl (by decide) rfl ?_
  exact e_loop3 (L := fun b1 b2 => [some (.ref a0), some (.int b1), some (.int b2)]) (S := fun b1 b2 => []) (fun kf hkf => t_X4_loudest_4 a0  kf hkf) _ (0 : Int32) (1 : Int32) w
def M_X4_pairsNow : aM := (yX4_pairsNow, cX4_pairsNow, 4, (some .int), 1, 21)
theorem ok_X4_pairsNow : a_okM M_X4_pairsNow 0 := ⟨⟨by decide +kernel, by decide +kernel⟩, by decide +kernel, a_in 1312 (by decide +kernel) rfl, a_in 79 (by decide +kernel) rfl⟩
theorem dX4_pairsNow_0 : decode M_X4_pairsNow.2.1 0 = .ok (.iconst 0, 1) := by decide +kernel
theorem dX4_pairsNow_1 : decode M_X4_pairsNow.2.1 1 = .ok (.istore_n 1, 1) := by decide +kernel
theorem dX4_pairsNow_2 : decode M_X4_pairsNow.2.1 2 = .ok (.iconst 0, 1) := by decide +kernel
theorem dX4_pairsNow_3 : decode M_X4_pairsNow.2.1 3 = .ok (.istore_n 2, 1) := by decide +kernel
theorem dX4_pairsNow_4 : decode M_X4_pairsNow.2.1 4 = .ok (.iload_n 2, 1) := by decide +kernel
theorem dX4_pairsNow_5 : decode M_X4_pairsNow.2.1 5 = .ok (.aload_n 0, 1) := by decide +kernel
theorem dX4_pairsNow_6 : decode M_X4_pairsNow.2.1 6 = .ok (.getfield 92, 3) := by decide +kernel
theorem dX4_pairsNow_9 : decode M_X4_pairsNow.2.1 9 = .ok (.if_icmp .ge 72, 3) := by decide +kernel
theorem dX4_pairsNow_12 : decode M_X4_pairsNow.2.1 12 = .ok (.iload_n 2, 1) := by decide +kernel
theorem dX4_pairsNow_13 : decode M_X4_pairsNow.2.1 13 = .ok (.iconst 1, 1) := by decide +kernel
theorem dX4_pairsNow_14 : decode M_X4_pairsNow.2.1 14 = .ok (.iadd, 1) := by decide +kernel
theorem dX4_pairsNow_15 : decode M_X4_pairsNow.2.1 15 = .ok (.istore_n 3, 1) := by decide +kernel
theorem dX4_pairsNow_16 : decode M_X4_pairsNow.2.1 16 = .ok (.iload_n 3, 1) := by decide +kernel
theorem dX4_pairsNow_17 : decode M_X4_pairsNow.2.1 17 = .ok (.aload_n 0, 1) := by decide +kernel
theorem dX4_pairsNow_18 : decode M_X4_pairsNow.2.1 18 = .ok (.getfield 92, 3) := by decide +kernel
theorem dX4_pairsNow_21 : decode M_X4_pairsNow.2.1 21 = .ok (.if_icmp .ge 54, 3) := by decide +kernel
theorem dX4_pairsNow_24 : decode M_X4_pairsNow.2.1 24 = .ok (.iload_n 1, 1) := by decide +kernel
theorem dX4_pairsNow_25 : decode M_X4_pairsNow.2.1 25 = .ok (.aload_n 0, 1) := by decide +kernel
theorem dX4_pairsNow_26 : decode M_X4_pairsNow.2.1 26 = .ok (.getfield 107, 3) := by decide +kernel
theorem dX4_pairsNow_29 : decode M_X4_pairsNow.2.1 29 = .ok (.iload_n 2, 1) := by decide +kernel
theorem dX4_pairsNow_30 : decode M_X4_pairsNow.2.1 30 = .ok (.invokestatic 110, 3) := by decide +kernel
theorem dX4_pairsNow_33 : decode M_X4_pairsNow.2.1 33 = .ok (.ifCond .eq 33, 3) := by decide +kernel
theorem dX4_pairsNow_36 : decode M_X4_pairsNow.2.1 36 = .ok (.aload_n 0, 1) := by decide +kernel
theorem dX4_pairsNow_37 : decode M_X4_pairsNow.2.1 37 = .ok (.getfield 107, 3) := by decide +kernel
theorem dX4_pairsNow_40 : decode M_X4_pairsNow.2.1 40 = .ok (.iload_n 3, 1) := by decide +kernel
theorem dX4_pairsNow_41 : decode M_X4_pairsNow.2.1 41 = .ok (.invokestatic 110, 3) := by decide +kernel
theorem dX4_pairsNow_44 : decode M_X4_pairsNow.2.1 44 = .ok (.ifCond .eq 22, 3) := by decide +kernel
theorem dX4_pairsNow_47 : decode M_X4_pairsNow.2.1 47 = .ok (.aload_n 0, 1) := by decide +kernel
theorem dX4_pairsNow_48 : decode M_X4_pairsNow.2.1 48 = .ok (.getfield 16, 3) := by decide +kernel
theorem dX4_pairsNow_51 : decode M_X4_pairsNow.2.1 51 = .ok (.iload_n 2, 1) := by decide +kernel
theorem dX4_pairsNow_52 : decode M_X4_pairsNow.2.1 52 = .ok (.iaload, 1) := by decide +kernel
theorem dX4_pairsNow_53 : decode M_X4_pairsNow.2.1 53 = .ok (.aload_n 0, 1) := by decide +kernel
theorem dX4_pairsNow_54 : decode M_X4_pairsNow.2.1 54 = .ok (.getfield 16, 3) := by decide +kernel
theorem dX4_pairsNow_57 : decode M_X4_pairsNow.2.1 57 = .ok (.iload_n 3, 1) := by decide +kernel
theorem dX4_pairsNow_58 : decode M_X4_pairsNow.2.1 58 = .ok (.iaload, 1) := by decide +kernel
theorem dX4_pairsNow_59 : decode M_X4_pairsNow.2.1 59 = .ok (.if_icmp .ne 7, 3) := by decide +kernel
theorem dX4_pairsNow_62 : decode M_X4_pairsNow.2.1 62 = .ok (.iconst 1, 1) := by decide +kernel
theorem dX4_pairsNow_63 : decode M_X4_pairsNow.2.1 63 = .ok (.goto 4, 3) := by decide +kernel
theorem dX4_pairsNow_66 : decode M_X4_pairsNow.2.1 66 = .ok (.iconst 0, 1) := by decide +kernel
theorem dX4_pairsNow_67 : decode M_X4_pairsNow.2.1 67 = .ok (.iadd, 1) := by decide +kernel
theorem dX4_pairsNow_68 : decode M_X4_pairsNow.2.1 68 = .ok (.istore_n 1, 1) := by decide +kernel
theorem dX4_pairsNow_69 : decode M_X4_pairsNow.2.1 69 = .ok (.iinc 3 1, 3) := by decide +kernel
theorem dX4_pairsNow_72 : decode M_X4_pairsNow.2.1 72 = .ok (.goto (-56), 3) := by decide +kernel
theorem dX4_pairsNow_75 : decode M_X4_pairsNow.2.1 75 = .ok (.iinc 2 1, 3) := by decide +kernel
theorem dX4_pairsNow_78 : decode M_X4_pairsNow.2.1 78 = .ok (.goto (-74), 3) := by decide +kernel
theorem dX4_pairsNow_81 : decode M_X4_pairsNow.2.1 81 = .ok (.iload_n 1, 1) := by decide +kernel
theorem dX4_pairsNow_82 : decode M_X4_pairsNow.2.1 82 = .ok (.ireturn, 1) := by decide +kernel
def c_X4_pairsNow_16 (a0 : Nat) (k4 : Int32 → Int32 → aW → Option (Int32 × aW)) (k16 : Int32 → Int32 → Int32 → aW → Option (Int32 × aW)) (b1 : Int32) (b2 : Int32) (b3 : Int32) (w : aW) : Option (Int32 × aW) :=
  (gI 3 w a0 0).bind fun x2 =>
  if x2 ≤ b3 then
    k4 b1 (b2 + 1) w
  else
    (gI 3 w a0 6).bind fun x3 =>
    bk (f_X4_hasBit x3 b2 w) fun x5 w4 =>
    if x5 = (0 : Int32) then
      k16 (b1 + (0 : Int32)) b2 (b3 + 1) w4
    else
      (gI 3 w4 a0 6).bind fun x6 =>
      bk (f_X4_hasBit x6 b3 w4) fun x8 w7 =>
      if x8 = (0 : Int32) then
        k16 (b1 + (0 : Int32)) b2 (b3 + 1) w7
      else
        (gR 3 w7 a0 3).bind fun r9 =>
        (gA w7 r9 b2).bind fun x10 =>
        (gR 3 w7 a0 3).bind fun r11 =>
        (gA w7 r11 b3).bind fun x12 =>
        if ¬ x10 = x12 then
          k16 (b1 + (0 : Int32)) b2 (b3 + 1) w7
        else
          k16 (b1 + (1 : Int32)) b2 (b3 + 1) w7
theorem t_X4_pairsNow_16 (a0 : Nat) (k4 : Int32 → Int32 → aW → Option (Int32 × aW)) (hk4 : ∀ (b1 : Int32) (b2 : Int32) (w : aW), Ev rvI M_X4_pairsNow 4 [some (.ref a0), some (.int b1), some (.int b2), none] [] w (k4 b1 b2 w)) (k16 : Int32 → Int32 → Int32 → aW → Option (Int32 × aW)) (hk16 : ∀ (b1 : Int32) (b2 : Int32) (b3 : Int32) (w : aW), Ev rvI M_X4_pairsNow 16 [some (.ref a0), some (.int b1), some (.int b2), some (.int b3)] [] w (k16 b1 b2 b3 w)) (b1 : Int32) (b2 : Int32) (b3 : Int32) (w : aW) : Ev rvI M_X4_pairsNow 16 [some (.ref a0), some (.int b1), some (.int b2), some (.int b3)] [] w (c_X4_pairsNow_16 a0 k4 k16 b1 b2 b3 w) := by
  unfold c_X4_pairsNow_16
  refine e_iload_n (pc := 16) dX4_pairsNow_16 rfl rfl ?_
  refine e_aload_n (pc := 17) dX4_pairsNow_17 rfl rfl ?_
  refine e_getI (pc := 18) dX4_pairsNow_18 hs_X4_92 (fun x2 => ?_)
  refine e_icmp_ge (pc := 21) (tgt := 75) dX4_pairsNow_21 (by decide) (fun _ => ?_) (fun _ => ?_)
  · refine e_iinc (L' := [some (.ref a0), some (.int b1), some (.int (b2 + 1)), some (.int b3)]) (pc := 75) (v := 1) dX4_pairsNow_75 (by decide) rfl kc_1 rfl ?_
    refine e_goto (pc := 78) (tgt := 4) dX4_pairsNow_78 (by decide) ?_
    refine e_forget (L2 := [some (.ref a0), some (.int b1), some (.int (b2 + 1)), none]) (And.intro rfl (And.intro rfl (And.intro rfl trivial))) ?_
    exact hk4 b1 (b2 + 1) w
  · refine e_iload_n (pc := 24) dX4_pairsNow_24 rfl rfl ?_
    refine e_aload_n (pc := 25) dX4_pairsNow_25 rfl rfl ?_
    refine e_getI (pc := 26) dX4_pairsNow_26 hs_X4_107 (fun x3 => ?_)
    refine e_iload_n (pc := 29) dX4_pairsNow_29 rfl rfl ?_
    refine e_callS (pc := 30) (av := [.int x3, .int b2]) (S := [.int b1]) ok_X4_hasBit ⟨Nat.le_of_ble_eq_true rfl, Nat.le_of_ble_eq_true rfl⟩ ht_X4_110 dX4_pairsNow_30 (s_X4_hasBit x3 b2 w) rfl rfl (Nat.le_of_ble_eq_true rfl) (fun x5 w4 => ?_)
    refine e_if_eq (pc := 33) (tgt := 66) dX4_pairsNow_33 (by decide) (fun _ => ?_) (fun _ => ?_)
    · refine e_iconst (pc := 66) dX4_pairsNow_66 kc_0 ?_
      refine e_iadd (pc := 67) dX4_pairsNow_67 ?_
      refine e_istore_n (L' := [some (.ref a0), some (.int (b1 + (0 : Int32))), some (.int b2), some (.int b3)]) (pc := 68) dX4_pairsNow_68 rfl (by decide) rfl ?_
      refine e_iinc (L' := [some (.ref a0), some (.int (b1 + (0 : Int32))), some (.int b2), some (.int (b3 + 1))]) (pc := 69) (v := 1) dX4_pairsNow_69 (by decide) rfl kc_1 rfl ?_
      refine e_goto (pc := 72) (tgt := 16) dX4_pairsNow_72 (by decide) ?_
      exact hk16 (b1 + (0 : Int32)) b2 (b3 + 1) w4
    · refine e_aload_n (pc := 36) dX4_pairsNow_36 rfl rfl ?_
      refine e_getI (pc := 37) dX4_pairsNow_37 hs_X4_107 (fun x6 => ?_)
      refine e_iload_n (pc := 40) dX4_pairsNow_40 rfl rfl ?_
      refine e_callS (pc := 41) (av := [.int x6, .int b3]) (S := [.int b1]) ok_X4_hasBit ⟨Nat.le_of_ble_eq_true rfl, Nat.le_of_ble_eq_true rfl⟩ ht_X4_110 dX4_pairsNow_41 (s_X4_hasBit x6 b3 w4) rfl rfl (Nat.le_of_ble_eq_true rfl) (fun x8 w7 => ?_)
      refine e_if_eq (pc := 44) (tgt := 66) dX4_pairsNow_44 (by decide) (fun _ => ?_) (fun _ => ?_)
      · refine e_iconst (pc := 66) dX4_pairsNow_66 kc_0 ?_
        refine e_iadd (pc := 67) dX4_pairsNow_67 ?_
        refine e_istore_n (L' := [some (.ref a0), some (.int (b1 + (0 : Int32))), some (.int b2), some (.int b3)]) (pc := 68) dX4_pairsNow_68 rfl (by decide) rfl ?_
        refine e_iinc (L' := [some (.ref a0), some (.int (b1 + (0 : Int32))), some (.int b2), some (.int (b3 + 1))]) (pc := 69) (v := 1) dX4_pairsNow_69 (by decide) rfl kc_1 rfl ?_
        refine e_goto (pc := 72) (tgt := 16) dX4_pairsNow_72 (by decide) ?_
        exact hk16 (b1 + (0 : Int32)) b2 (b3 + 1) w7
      · refine e_aload_n (pc := 47) dX4_pairsNow_47 rfl rfl ?_
        refine e_getR (pc := 48) dX4_pairsNow_48 hs_X4_16 (fun r9 => ?_)
        refine e_iload_n (pc := 51) dX4_pairsNow_51 rfl rfl ?_
        refine e_iald (pc := 52) dX4_pairsNow_52 (fun x10 => ?_)
        refine e_aload_n (pc := 53) dX4_pairsNow_53 rfl rfl ?_
        refine e_getR (pc := 54) dX4_pairsNow_54 hs_X4_16 (fun r11 => ?_)
        refine e_iload_n (pc := 57) dX4_pairsNow_57 rfl rfl ?_
        refine e_iald (pc := 58) dX4_pairsNow_58 (fun x12 => ?_)
        refine e_icmp_ne (pc := 59) (tgt := 66) dX4_pairsNow_59 (by decide) (fun _ => ?_) (fun _ => ?_)
        · refine e_iconst (pc := 66) dX4_pairsNow_66 kc_0 ?_
          refine e_iadd (pc := 67) dX4_pairsNow_67 ?_
          refine e_istore_n (L' := [some (.ref a0), some (.int (b1 + (0 : Int32))), some (.int b2), some (.int b3)]) (pc := 68) dX4_pairsNow_68 rfl (by decide) rfl ?_
          refine e_iinc (L' := [some (.ref a0), some (.int (b1 + (0 : Int32))), some (.int b2), some (.int (b3 + 1))]) (pc := 69) (v := 1) dX4_pairsNow_69 (by decide) rfl kc_1 rfl ?_
          refine e_goto (pc := 72) (tgt := 16) dX4_pairsNow_72 (by decide) ?_
          exact hk16 (b1 + (0 : Int32)) b2 (b3 + 1) w7
        · refine e_iconst (pc := 62) dX4_pairsNow_62 kc_1 ?_
          refine e_goto (pc := 63) (tgt := 67) dX4_pairsNow_63 (by decide) ?_
          refine e_iadd (pc := 67) dX4_pairsNow_67 ?_
          refine e_istore_n (L' := [some (.ref a0), some (.int (b1 + (1 : Int32))), some (.int b2), some (.int b3)]) (pc := 68) dX4_pairsNow_68 rfl (by decide) rfl ?_
          refine e_iinc (L' := [some (.ref a0), some (.int (b1 + (1 : Int32))), some (.int b2), some (.int (b3 + 1))]) (pc := 69) (v := 1) dX4_pairsNow_69 (by decide) rfl kc_1 rfl ?_
          refine e_goto (pc := 72) (tgt := 16) dX4_pairsNow_72 (by decide) ?_
          exact hk16 (b1 + (1 : Int32)) b2 (b3 + 1) w7
def c_X4_pairsNow_4 (a0 : Nat) (k4 : Int32 → Int32 → aW → Option (Int32 × aW)) (b1 : Int32) (b2 : Int32) (w : aW) : Option (Int32 × aW) :=
  (gI 3 w a0 0).bind fun x1 =>
  if x1 ≤ b2 then
    some (b1, w)
  else
    loop4 (c_X4_pairsNow_16 a0 k4) a_fuel b1 b2 (b2 + (1 : Int32)) w
theorem t_X4_pairsNow_4 (a0 : Nat) (k4 : Int32 → Int32 → aW → Option (Int32 × aW)) (hk4 : ∀ (b1 : Int32) (b2 : Int32) (w : aW), Ev rvI M_X4_pairsNow 4 [some (.ref a0), some (.int b1), some (.int b2), none] [] w (k4 b1 b2 w)) (b1 : Int32) (b2 : Int32) (w : aW) : Ev rvI M_X4_pairsNow 4 [some (.ref a0), some (.int b1), some (.int b2), none] [] w (c_X4_pairsNow_4 a0 k4 b1 b2 w) := by
  unfold c_X4_pairsNow_4
  refine e_iload_n (pc := 4) dX4_pairsNow_4 rfl rfl ?_
  refine e_aload_n (pc := 5) dX4_pairsNow_5 rfl rfl ?_
  refine e_getI (pc := 6) dX4_pairsNow_6 hs_X4_92 (fun x1 => ?_)
  refine e_icmp_ge (pc := 9) (tgt := 81) dX4_pairsNow_9 (by decide) (fun _ => ?_) (fun _ => ?_)
  · refine e_iload_n (pc := 81) dX4_pairsNow_81 rfl rfl ?_
    exact e_iret (pc := 82) dX4_pairsNow_82 rfl rfl
  · refine e_iload_n (pc := 12) dX4_pairsNow_12 rfl rfl ?_
    refine e_iconst (pc := 13) dX4_pairsNow_13 kc_1 ?_
    refine e_iadd (pc := 14) dX4_pairsNow_14 ?_
    refine e_istore_n (L' := [some (.ref a0), some (.int b1), some (.int b2), some (.int (b2 + (1 : Int32)))]) (pc := 15) dX4_pairsNow_15 rfl (by decide) rfl ?_
    exact e_loop4 (L := fun b1 b2 b3 => [some (.ref a0), some (.int b1), some (.int b2), some (.int b3)]) (S := fun b1 b2 b3 => []) (fun kf hkf => t_X4_pairsNow_16 a0 k4 hk4 kf hkf) _ b1 b2 (b2 + (1 : Int32)) w
def f_X4_pairsNow (a0 : Nat) (w : aW) : Option (Int32 × aW) :=
  loop3 (c_X4_pairsNow_4 a0) a_fuel (0 : Int32) (0 : Int32) w
theorem s_X4_pairsNow (a0 : Nat) (w : aW) : Sp rvI M_X4_pairsNow [.ref a0] w (f_X4_pairsNow a0 w) := by
  refine e_entry [some (.ref a0), none, none, none] (by decide +kernel) (Nat.le_of_ble_eq_true rfl) (fun _ => rfl) ?_
  unfold f_X4_pairsNow
  refine e_iconst (pc := 0) dX4_pairsNow_0 kc_0 ?_
  refine e_istore_n (L' := [some (.ref a0), some (.int (0 : Int32)), none, none]) (pc := 1) dX4_pairsNow_1 rfl (by decide) rfl ?_
  refine e_iconst (pc := 2) dX4_pairsNow_2 kc_0 ?_
  refine e_istore_n (L' := [some (.ref a0), some (.int (0 : Int32)), some (.int (0 : Int32)), none]) (pc := 3) dX4_pairsNow_3 rfl (by decide) rfl ?_
  exact e_loop3 (L := fun b1 b2 => [some (.ref a0), some (.int b1), some (.int b2), none]) (S := fun b1 b2 => []) (fun kf hkf => t_X4_pairsNow_4 a0  kf hkf) _ (0 : Int32) (0 : Int32) w
def M_X4_hungriest : aM := (yX4_hungriest, cX4_hungriest, 3, (some .int), 1, 21)
theorem ok_X4_hungriest : a_okM M_X4_hungriest 0 := ⟨⟨by decide +kernel, by decide +kernel⟩, by decide +kernel, a_in 1316 (by decide +kernel) rfl, a_in 79 (by decide +kernel) rfl⟩
theorem dX4_hungriest_0 : decode M_X4_hungriest.2.1 0 = .ok (.bipush (-4), 2) := by decide +kernel
theorem dX4_hungriest_2 : decode M_X4_hungriest.2.1 2 = .ok (.istore_n 1, 1) := by decide +kernel
theorem dX4_hungriest_3 : decode M_X4_hungriest.2.1 3 = .ok (.iconst 0, 1) := by decide +kernel
theorem dX4_hungriest_4 : decode M_X4_hungriest.2.1 4 = .ok (.istore_n 2, 1) := by decide +kernel
theorem dX4_hungriest_5 : decode M_X4_hungriest.2.1 5 = .ok (.iload_n 2, 1) := by decide +kernel
theorem dX4_hungriest_6 : decode M_X4_hungriest.2.1 6 = .ok (.aload_n 0, 1) := by decide +kernel
theorem dX4_hungriest_7 : decode M_X4_hungriest.2.1 7 = .ok (.getfield 92, 3) := by decide +kernel
theorem dX4_hungriest_10 : decode M_X4_hungriest.2.1 10 = .ok (.if_icmp .ge 45, 3) := by decide +kernel
theorem dX4_hungriest_13 : decode M_X4_hungriest.2.1 13 = .ok (.aload_n 0, 1) := by decide +kernel
theorem dX4_hungriest_14 : decode M_X4_hungriest.2.1 14 = .ok (.getfield 107, 3) := by decide +kernel
theorem dX4_hungriest_17 : decode M_X4_hungriest.2.1 17 = .ok (.iload_n 2, 1) := by decide +kernel
theorem dX4_hungriest_18 : decode M_X4_hungriest.2.1 18 = .ok (.invokestatic 110, 3) := by decide +kernel
theorem dX4_hungriest_21 : decode M_X4_hungriest.2.1 21 = .ok (.ifCond .eq 26, 3) := by decide +kernel
theorem dX4_hungriest_24 : decode M_X4_hungriest.2.1 24 = .ok (.iload_n 1, 1) := by decide +kernel
theorem dX4_hungriest_25 : decode M_X4_hungriest.2.1 25 = .ok (.ifCond .lt 18, 3) := by decide +kernel
theorem dX4_hungriest_28 : decode M_X4_hungriest.2.1 28 = .ok (.aload_n 0, 1) := by decide +kernel
theorem dX4_hungriest_29 : decode M_X4_hungriest.2.1 29 = .ok (.getfield 19, 3) := by decide +kernel
theorem dX4_hungriest_32 : decode M_X4_hungriest.2.1 32 = .ok (.iload_n 2, 1) := by decide +kernel
theorem dX4_hungriest_33 : decode M_X4_hungriest.2.1 33 = .ok (.iaload, 1) := by decide +kernel
theorem dX4_hungriest_34 : decode M_X4_hungriest.2.1 34 = .ok (.aload_n 0, 1) := by decide +kernel
theorem dX4_hungriest_35 : decode M_X4_hungriest.2.1 35 = .ok (.getfield 19, 3) := by decide +kernel
theorem dX4_hungriest_38 : decode M_X4_hungriest.2.1 38 = .ok (.iload_n 1, 1) := by decide +kernel
theorem dX4_hungriest_39 : decode M_X4_hungriest.2.1 39 = .ok (.iaload, 1) := by decide +kernel
theorem dX4_hungriest_40 : decode M_X4_hungriest.2.1 40 = .ok (.if_icmp .le 7, 3) := by decide +kernel
theorem dX4_hungriest_43 : decode M_X4_hungriest.2.1 43 = .ok (.iload_n 2, 1) := by decide +kernel
theorem dX4_hungriest_44 : decode M_X4_hungriest.2.1 44 = .ok (.goto 4, 3) := by decide +kernel
theorem dX4_hungriest_47 : decode M_X4_hungriest.2.1 47 = .ok (.iload_n 1, 1) := by decide +kernel
theorem dX4_hungriest_48 : decode M_X4_hungriest.2.1 48 = .ok (.istore_n 1, 1) := by decide +kernel
theorem dX4_hungriest_49 : decode M_X4_hungriest.2.1 49 = .ok (.iinc 2 1, 3) := by decide +kernel
theorem dX4_hungriest_52 : decode M_X4_hungriest.2.1 52 = .ok (.goto (-47), 3) := by decide +kernel
theorem dX4_hungriest_55 : decode M_X4_hungriest.2.1 55 = .ok (.iload_n 1, 1) := by decide +kernel
theorem dX4_hungriest_56 : decode M_X4_hungriest.2.1 56 = .ok (.ireturn, 1) := by decide +kernel
def c_X4_hungriest_5 (a0 : Nat) (k5 : Int32 → Int32 → aW → Option (Int32 × aW)) (b1 : Int32) (b2 : Int32) (w : aW) : Option (Int32 × aW) :=
  (gI 3 w a0 0).bind fun x1 =>
  if x1 ≤ b2 then
    some (b1, w)
  else
    (gI 3 w a0 6).bind fun x2 =>
    bk (f_X4_hasBit x2 b2 w) fun x4 w3 =>
    if x4 = (0 : Int32) then
      k5 b1 (b2 + 1) w3
    else
      if b1 < (0 : Int32) then
        k5 b2 (b2 + 1) w3
      else
        (gR 3 w3 a0 4).bind fun r5 =>
        (gA w3 r5 b2).bind fun x6 =>
        (gR 3 w3 a0 4).bind fun r7 =>
        (gA w3 r7 b1).bind fun x8 =>
        if x6 ≤ x8 then
          k5 b1 (b2 + 1) w3
        else
          k5 b2 (b2 + 1) w3
theorem t_X4_hungriest_5 (a0 : Nat) (k5 : Int32 → Int32 → aW → Option (Int32 × aW)) (hk5 : ∀ (b1 : Int32) (b2 : Int32) (w : aW), Ev rvI M_X4_hungriest 5 [some (.ref a0), some (.int b1), some (.int b2)] [] w (k5 b1 b2 w)) (b1 : Int32) (b2 : Int32) (w : aW) : Ev rvI M_X4_hungriest 5 [some (.ref a0), some (.int b1), some (.int b2)] [] w (c_X4_hungriest_5 a0 k5 b1 b2 w) := by
  unfold c_X4_hungriest_5
  refine e_iload_n (pc := 5) dX4_hungriest_5 rfl rfl ?_
  refine e_aload_n (pc := 6) dX4_hungriest_6 rfl rfl ?_
  refine e_getI (pc := 7) dX4_hungriest_7 hs_X4_92 (fun x1 => ?_)
  refine e_icmp_ge (pc := 10) (tgt := 55) dX4_hungriest_10 (by decide) (fun _ => ?_) (fun _ => ?_)
  · refine e_iload_n (pc := 55) dX4_hungriest_55 rfl rfl ?_
    exact e_iret (pc := 56) dX4_hungriest_56 rfl rfl
  · refine e_aload_n (pc := 13) dX4_hungriest_13 rfl rfl ?_
    refine e_getI (pc := 14) dX4_hungriest_14 hs_X4_107 (fun x2 => ?_)
    refine e_iload_n (pc := 17) dX4_hungriest_17 rfl rfl ?_
    refine e_callS (pc := 18) (av := [.int x2, .int b2]) (S := []) ok_X4_hasBit ⟨Nat.le_of_ble_eq_true rfl, Nat.le_of_ble_eq_true rfl⟩ ht_X4_110 dX4_hungriest_18 (s_X4_hasBit x2 b2 w) rfl rfl (Nat.le_of_ble_eq_true rfl) (fun x4 w3 => ?_)
    refine e_if_eq (pc := 21) (tgt := 47) dX4_hungriest_21 (by decide) (fun _ => ?_) (fun _ => ?_)
    · refine e_iload_n (pc := 47) dX4_hungriest_47 rfl rfl ?_
      refine e_istore_n (L' := [some (.ref a0), some (.int b1), some (.int b2)]) (pc := 48) dX4_hungriest_48 rfl (by decide) rfl ?_
      refine e_iinc (L' := [some (.ref a0), some (.int b1), some (.int (b2 + 1))]) (pc := 49) (v := 1) dX4_hungriest_49 (by decide) rfl kc_1 rfl ?_
      refine e_goto (pc := 52) (tgt := 5) dX4_hungriest_52 (by decide) ?_
      exact hk5 b1 (b2 + 1) w3
    · refine e_iload_n (pc := 24) dX4_hungriest_24 rfl rfl ?_
      refine e_if_lt (pc := 25) (tgt := 43) dX4_hungriest_25 (by decide) (fun _ => ?_) (fun _ => ?_)
      · refine e_iload_n (pc := 43) dX4_hungriest_43 rfl rfl ?_
        refine e_goto (pc := 44) (tgt := 48) dX4_hungriest_44 (by decide) ?_
        refine e_istore_n (L' := [some (.ref a0), some (.int b2), some (.int b2)]) (pc := 48) dX4_hungriest_48 rfl (by decide) rfl ?_
        refine e_iinc (L' := [some (.ref a0), some (.int b2), some (.int (b2 + 1))]) (pc := 49) (v := 1) dX4_hungriest_49 (by decide) rfl kc_1 rfl ?_
        refine e_goto (pc := 52) (tgt := 5) dX4_hungriest_52 (by decide) ?_
        exact hk5 b2 (b2 + 1) w3
      · refine e_aload_n (pc := 28) dX4_hungriest_28 rfl rfl ?_
        refine e_getR (pc := 29) dX4_hungriest_29 hs_X4_19 (fun r5 => ?_)
        refine e_iload_n (pc := 32) dX4_hungriest_32 rfl rfl ?_
        refine e_iald (pc := 33) dX4_hungriest_33 (fun x6 => ?_)
        refine e_aload_n (pc := 34) dX4_hungriest_34 rfl rfl ?_
        refine e_getR (pc := 35) dX4_hungriest_35 hs_X4_19 (fun r7 => ?_)
        refine e_iload_n (pc := 38) dX4_hungriest_38 rfl rfl ?_
        refine e_iald (pc := 39) dX4_hungriest_39 (fun x8 => ?_)
        refine e_icmp_le (pc := 40) (tgt := 47) dX4_hungriest_40 (by decide) (fun _ => ?_) (fun _ => ?_)
        · refine e_iload_n (pc := 47) dX4_hungriest_47 rfl rfl ?_
          refine e_istore_n (L' := [some (.ref a0), some (.int b1), some (.int b2)]) (pc := 48) dX4_hungriest_48 rfl (by decide) rfl ?_
          refine e_iinc (L' := [some (.ref a0), some (.int b1), some (.int (b2 + 1))]) (pc := 49) (v := 1) dX4_hungriest_49 (by decide) rfl kc_1 rfl ?_
          refine e_goto (pc := 52) (tgt := 5) dX4_hungriest_52 (by decide) ?_
          exact hk5 b1 (b2 + 1) w3
        · refine e_iload_n (pc := 43) dX4_hungriest_43 rfl rfl ?_
          refine e_goto (pc := 44) (tgt := 48) dX4_hungriest_44 (by decide) ?_
          refine e_istore_n (L' := [some (.ref a0), some (.int b2), some (.int b2)]) (pc := 48) dX4_hungriest_48 rfl (by decide) rfl ?_
          refine e_iinc (L' := [some (.ref a0), some (.int b2), some (.int (b2 + 1))]) (pc := 49) (v := 1) dX4_hungriest_49 (by decide) rfl kc_1 rfl ?_
          refine e_goto (pc := 52) (tgt := 5) dX4_hungriest_52 (by decide) ?_
          exact hk5 b2 (b2 + 1) w3
def f_X4_hungriest (a0 : Nat) (w : aW) : Option (Int32 × aW) :=
  loop3 (c_X4_hungriest_5 a0) a_fuel (-4 : Int32) (0 : Int32) w
theorem s_X4_hungriest (a0 : Nat) (w : aW) : Sp rvI M_X4_hungriest [.ref a0] w (f_X4_hungriest a0 w) := by
  refine e_entry [some (.ref a0), none, none] (by decide +kernel) (Nat.le_of_ble_eq_true rfl) (fun _ => rfl) ?_
  unfold f_X4_hungriest
  refine e_bipush (pc := 0) dX4_hungriest_0 kb_m4 ?_
  refine e_istore_n (L' := [some (.ref a0), some (.int (-4 : Int32)), none]) (pc := 2) dX4_hungriest_2 rfl (by decide) rfl ?_
  refine e_iconst (pc := 3) dX4_hungriest_3 kc_0 ?_
  refine e_istore_n (L' := [some (.ref a0), some (.int (-4 : Int32)), some (.int (0 : Int32))]) (pc := 4) dX4_hungriest_4 rfl (by decide) rfl ?_
  exact e_loop3 (L := fun b1 b2 => [some (.ref a0), some (.int b1), some (.int b2)]) (S := fun b1 b2 => []) (fun kf hkf => t_X4_hungriest_5 a0  kf hkf) _ (-4 : Int32) (0 : Int32) w
def M_X4_of : aM := (yX4_of, cX4_of, 2, (some .int), 3, 64)
theorem ok_X4_of : a_okM M_X4_of 1 := ⟨⟨by decide +kernel, by decide +kernel⟩, by decide +kernel, a_in 1304 (by decide +kernel) rfl, a_in 79 (by decide +kernel) rfl⟩
theorem dX4_of_0 : decode M_X4_of.2.1 0 = .ok (.aload_n 0, 1) := by decide +kernel
theorem dX4_of_1 : decode M_X4_of.2.1 1 = .ok (.iconst 0, 1) := by decide +kernel
theorem dX4_of_2 : decode M_X4_of.2.1 2 = .ok (.putfield 80, 3) := by decide +kernel
theorem dX4_of_5 : decode M_X4_of.2.1 5 = .ok (.iload_n 1, 1) := by decide +kernel
theorem dX4_of_6 : decode M_X4_of.2.1 6 = .ok (.tableswitch 59 0 4 #[34, 39, 44, 49, 54], 34) := by decide +kernel
theorem dX4_of_40 : decode M_X4_of.2.1 40 = .ok (.aload_n 0, 1) := by decide +kernel
theorem dX4_of_41 : decode M_X4_of.2.1 41 = .ok (.invokevirtual 103, 3) := by decide +kernel
theorem dX4_of_44 : decode M_X4_of.2.1 44 = .ok (.ireturn, 1) := by decide +kernel
theorem dX4_of_45 : decode M_X4_of.2.1 45 = .ok (.aload_n 0, 1) := by decide +kernel
theorem dX4_of_46 : decode M_X4_of.2.1 46 = .ok (.invokevirtual 315, 3) := by decide +kernel
theorem dX4_of_49 : decode M_X4_of.2.1 49 = .ok (.ireturn, 1) := by decide +kernel
theorem dX4_of_50 : decode M_X4_of.2.1 50 = .ok (.aload_n 0, 1) := by decide +kernel
theorem dX4_of_51 : decode M_X4_of.2.1 51 = .ok (.invokevirtual 301, 3) := by decide +kernel
theorem dX4_of_54 : decode M_X4_of.2.1 54 = .ok (.ireturn, 1) := by decide +kernel
theorem dX4_of_55 : decode M_X4_of.2.1 55 = .ok (.aload_n 0, 1) := by decide +kernel
theorem dX4_of_56 : decode M_X4_of.2.1 56 = .ok (.invokevirtual 318, 3) := by decide +kernel
theorem dX4_of_59 : decode M_X4_of.2.1 59 = .ok (.ireturn, 1) := by decide +kernel
theorem dX4_of_60 : decode M_X4_of.2.1 60 = .ok (.aload_n 0, 1) := by decide +kernel
theorem dX4_of_61 : decode M_X4_of.2.1 61 = .ok (.invokevirtual 321, 3) := by decide +kernel
theorem dX4_of_64 : decode M_X4_of.2.1 64 = .ok (.ireturn, 1) := by decide +kernel
theorem dX4_of_65 : decode M_X4_of.2.1 65 = .ok (.iconst (-1), 1) := by decide +kernel
theorem dX4_of_66 : decode M_X4_of.2.1 66 = .ok (.ireturn, 1) := by decide +kernel
theorem hv_X4_315 : a_okV RX4 M_X4_loudest 315 := ⟨a_in 1305 (by decide +kernel) rfl, a_in 1307 (by decide +kernel) rfl, a_in 65 (by decide +kernel) rfl⟩
theorem hv_X4_318 : a_okV RX4 M_X4_pairsNow 318 := ⟨a_in 1309 (by decide +kernel) rfl, a_in 1311 (by decide +kernel) rfl, a_in 66 (by decide +kernel) rfl⟩
theorem hv_X4_321 : a_okV RX4 M_X4_hungriest 321 := ⟨a_in 1313 (by decide +kernel) rfl, a_in 1315 (by decide +kernel) rfl, a_in 67 (by decide +kernel) rfl⟩
def f_X4_of (a0 : Nat) (a1 : Int32) (w : aW) : Option (Int32 × aW) :=
  (sF 3 w a0 19 (.int (0 : Int32))).bind fun w1 =>
  if a1 = (0 : Int32) then
    cV 3 w1 a0 (bk (f_X4_richestOf a0 w1) fun x4 w3 =>
    some (x4, w3))
  else
    if a1 = (1 : Int32) then
      cV 3 w1 a0 (bk (f_X4_loudest a0 w1) fun x7 w6 =>
      some (x7, w6))
    else
      if a1 = (2 : Int32) then
        cV 3 w1 a0 (bk (f_X4_freeBits a0 w1) fun x10 w9 =>
        some (x10, w9))
      else
        if a1 = (3 : Int32) then
          cV 3 w1 a0 (bk (f_X4_pairsNow a0 w1) fun x13 w12 =>
          some (x13, w12))
        else
          if a1 = (4 : Int32) then
            cV 3 w1 a0 (bk (f_X4_hungriest a0 w1) fun x16 w15 =>
            some (x16, w15))
          else
            some ((-1 : Int32), w1)
theorem s_X4_of (a0 : Nat) (a1 : Int32) (w : aW) : Sp rvI M_X4_of [.ref a0, .int a1] w (f_X4_of a0 a1 w) := by
  refine e_entry [some (.ref a0), some (.int a1)] (by decide +kernel) (Nat.le_of_ble_eq_true rfl) (fun _ => rfl) ?_
  unfold f_X4_of
  refine e_aload_n (pc := 0) dX4_of_0 rfl rfl ?_
  refine e_iconst (pc := 1) dX4_of_1 kc_0 ?_
  refine e_put (pc := 2) dX4_of_2 hw_X4_80 (fun _ => rfl) (fun _ => rfl) (fun w1 => ?_)
  refine e_iload_n (pc := 5) dX4_of_5 rfl rfl ?_
  refine e_ite (fun h2 => ?_) (fun h2 => ?_)
  · refine e_tabIn (pc := 6) (v := 0) (j := 0) (tgt := 40) dX4_of_6 h2 rfl (by decide) (by decide) rfl (by decide) ?_
    refine e_aload_n (pc := 40) dX4_of_40 rfl rfl ?_
    refine e_callV (pc := 41) (av := []) (S := []) (c0 := 3) rfl rfl ok_X4_richestOf ⟨Nat.le_of_ble_eq_true rfl, Nat.le_of_ble_eq_true rfl⟩ hv_X4_103 dX4_of_41 (s_X4_richestOf a0 w1) rfl rfl (Nat.le_of_ble_eq_true rfl) (fun x4 w3 => ?_)
    exact e_iret (pc := 44) dX4_of_44 rfl rfl
  · refine e_ite (fun h5 => ?_) (fun h5 => ?_)
    · refine e_tabIn (pc := 6) (v := 1) (j := 1) (tgt := 45) dX4_of_6 h5 rfl (by decide) (by decide) rfl (by decide) ?_
      refine e_aload_n (pc := 45) dX4_of_45 rfl rfl ?_
      refine e_callV (pc := 46) (av := []) (S := []) (c0 := 3) rfl rfl ok_X4_loudest ⟨Nat.le_of_ble_eq_true rfl, Nat.le_of_ble_eq_true rfl⟩ hv_X4_315 dX4_of_46 (s_X4_loudest a0 w1) rfl rfl (Nat.le_of_ble_eq_true rfl) (fun x7 w6 => ?_)
      exact e_iret (pc := 49) dX4_of_49 rfl rfl
    · refine e_ite (fun h8 => ?_) (fun h8 => ?_)
      · refine e_tabIn (pc := 6) (v := 2) (j := 2) (tgt := 50) dX4_of_6 h8 rfl (by decide) (by decide) rfl (by decide) ?_
        refine e_aload_n (pc := 50) dX4_of_50 rfl rfl ?_
        refine e_callV (pc := 51) (av := []) (S := []) (c0 := 3) rfl rfl ok_X4_freeBits ⟨Nat.le_of_ble_eq_true rfl, Nat.le_of_ble_eq_true rfl⟩ hv_X4_301 dX4_of_51 (s_X4_freeBits a0 w1) rfl rfl (Nat.le_of_ble_eq_true rfl) (fun x10 w9 => ?_)
        exact e_iret (pc := 54) dX4_of_54 rfl rfl
      · refine e_ite (fun h11 => ?_) (fun h11 => ?_)
        · refine e_tabIn (pc := 6) (v := 3) (j := 3) (tgt := 55) dX4_of_6 h11 rfl (by decide) (by decide) rfl (by decide) ?_
          refine e_aload_n (pc := 55) dX4_of_55 rfl rfl ?_
          refine e_callV (pc := 56) (av := []) (S := []) (c0 := 3) rfl rfl ok_X4_pairsNow ⟨Nat.le_of_ble_eq_true rfl, Nat.le_of_ble_eq_true rfl⟩ hv_X4_318 dX4_of_56 (s_X4_pairsNow a0 w1) rfl rfl (Nat.le_of_ble_eq_true rfl) (fun x13 w12 => ?_)
          exact e_iret (pc := 59) dX4_of_59 rfl rfl
        · refine e_ite (fun h14 => ?_) (fun h14 => ?_)
          · refine e_tabIn (pc := 6) (v := 4) (j := 4) (tgt := 60) dX4_of_6 h14 rfl (by decide) (by decide) rfl (by decide) ?_
            refine e_aload_n (pc := 60) dX4_of_60 rfl rfl ?_
            refine e_callV (pc := 61) (av := []) (S := []) (c0 := 3) rfl rfl ok_X4_hungriest ⟨Nat.le_of_ble_eq_true rfl, Nat.le_of_ble_eq_true rfl⟩ hv_X4_321 dX4_of_61 (s_X4_hungriest a0 w1) rfl rfl (Nat.le_of_ble_eq_true rfl) (fun x16 w15 => ?_)
            exact e_iret (pc := 64) dX4_of_64 rfl rfl
          · refine e_tabOut (pc := 6) (tgt := 65) dX4_of_6 (by have z0 := lv_neT h2 (show (0 : Int32).toInt = 0 from rfl); have z1 := lv_neT h5 (show (1 : Int32).toInt = 1 from rfl); have z2 := lv_neT h8 (show (2 : Int32).toInt = 2 from rfl); have z3 := lv_neT h11 (show (3 : Int32).toInt = 3 from rfl); have z4 := lv_neT h14 (show (4 : Int32).toInt = 4 from rfl); omega) (by decide) ?_
            refine e_iconst (pc := 65) dX4_of_65 kc_m1 ?_
            exact e_iret (pc := 66) dX4_of_66 rfl rfl
def M_X4_nearest : aM := (yX4_nearest, cX4_nearest, 2, (some .int), 2, 46)
theorem ok_X4_nearest : a_okM M_X4_nearest 1 := ⟨⟨by decide +kernel, by decide +kernel⟩, by decide +kernel, a_in 1320 (by decide +kernel) rfl, a_in 79 (by decide +kernel) rfl⟩
theorem dX4_nearest_0 : decode M_X4_nearest.2.1 0 = .ok (.aload_n 0, 1) := by decide +kernel
theorem dX4_nearest_1 : decode M_X4_nearest.2.1 1 = .ok (.iconst 0, 1) := by decide +kernel
theorem dX4_nearest_2 : decode M_X4_nearest.2.1 2 = .ok (.putfield 80, 3) := by decide +kernel
theorem dX4_nearest_5 : decode M_X4_nearest.2.1 5 = .ok (.aload_n 0, 1) := by decide +kernel
theorem dX4_nearest_6 : decode M_X4_nearest.2.1 6 = .ok (.iload_n 1, 1) := by decide +kernel
theorem dX4_nearest_7 : decode M_X4_nearest.2.1 7 = .ok (.invokevirtual 185, 3) := by decide +kernel
theorem dX4_nearest_10 : decode M_X4_nearest.2.1 10 = .ok (.ifCond .ne 5, 3) := by decide +kernel
theorem dX4_nearest_13 : decode M_X4_nearest.2.1 13 = .ok (.iconst (-1), 1) := by decide +kernel
theorem dX4_nearest_14 : decode M_X4_nearest.2.1 14 = .ok (.ireturn, 1) := by decide +kernel
theorem dX4_nearest_15 : decode M_X4_nearest.2.1 15 = .ok (.aload_n 0, 1) := by decide +kernel
theorem dX4_nearest_16 : decode M_X4_nearest.2.1 16 = .ok (.getfield 107, 3) := by decide +kernel
theorem dX4_nearest_19 : decode M_X4_nearest.2.1 19 = .ok (.iload_n 1, 1) := by decide +kernel
theorem dX4_nearest_20 : decode M_X4_nearest.2.1 20 = .ok (.invokestatic 110, 3) := by decide +kernel
theorem dX4_nearest_23 : decode M_X4_nearest.2.1 23 = .ok (.ifCond .eq 11, 3) := by decide +kernel
theorem dX4_nearest_26 : decode M_X4_nearest.2.1 26 = .ok (.aload_n 0, 1) := by decide +kernel
theorem dX4_nearest_27 : decode M_X4_nearest.2.1 27 = .ok (.iload_n 1, 1) := by decide +kernel
theorem dX4_nearest_28 : decode M_X4_nearest.2.1 28 = .ok (.invokevirtual 99, 3) := by decide +kernel
theorem dX4_nearest_31 : decode M_X4_nearest.2.1 31 = .ok (.goto 5, 3) := by decide +kernel
theorem dX4_nearest_34 : decode M_X4_nearest.2.1 34 = .ok (.bipush (-3), 2) := by decide +kernel
theorem dX4_nearest_36 : decode M_X4_nearest.2.1 36 = .ok (.ireturn, 1) := by decide +kernel
def f_X4_nearest (a0 : Nat) (a1 : Int32) (w : aW) : Option (Int32 × aW) :=
  (sF 3 w a0 19 (.int (0 : Int32))).bind fun w1 =>
  cV 3 w1 a0 (bk (f_X4_isBeast a0 a1 w1) fun x3 w2 =>
  if ¬ x3 = (0 : Int32) then
    (gI 3 w2 a0 6).bind fun x4 =>
    bk (f_X4_hasBit x4 a1 w2) fun x6 w5 =>
    if x6 = (0 : Int32) then
      some ((-3 : Int32), w5)
    else
      cV 3 w5 a0 (bk (f_X4_nearestOf a0 a1 w5) fun x8 w7 =>
      some (x8, w7))
  else
    some ((-1 : Int32), w2))
theorem s_X4_nearest (a0 : Nat) (a1 : Int32) (w : aW) : Sp rvI M_X4_nearest [.ref a0, .int a1] w (f_X4_nearest a0 a1 w) := by
  refine e_entry [some (.ref a0), some (.int a1)] (by decide +kernel) (Nat.le_of_ble_eq_true rfl) (fun _ => rfl) ?_
  unfold f_X4_nearest
  refine e_aload_n (pc := 0) dX4_nearest_0 rfl rfl ?_
  refine e_iconst (pc := 1) dX4_nearest_1 kc_0 ?_
  refine e_put (pc := 2) dX4_nearest_2 hw_X4_80 (fun _ => rfl) (fun _ => rfl) (fun w1 => ?_)
  refine e_aload_n (pc := 5) dX4_nearest_5 rfl rfl ?_
  refine e_iload_n (pc := 6) dX4_nearest_6 rfl rfl ?_
  refine e_callV (pc := 7) (av := [.int a1]) (S := []) (c0 := 3) rfl rfl ok_X4_isBeast ⟨Nat.le_of_ble_eq_true rfl, Nat.le_of_ble_eq_true rfl⟩ hv_X4_185 dX4_nearest_7 (s_X4_isBeast a0 a1 w1) rfl rfl (Nat.le_of_ble_eq_true rfl) (fun x3 w2 => ?_)
  refine e_if_ne (pc := 10) (tgt := 15) dX4_nearest_10 (by decide) (fun _ => ?_) (fun _ => ?_)
  · refine e_aload_n (pc := 15) dX4_nearest_15 rfl rfl ?_
    refine e_getI (pc := 16) dX4_nearest_16 hs_X4_107 (fun x4 => ?_)
    refine e_iload_n (pc := 19) dX4_nearest_19 rfl rfl ?_
    refine e_callS (pc := 20) (av := [.int x4, .int a1]) (S := []) ok_X4_hasBit ⟨Nat.le_of_ble_eq_true rfl, Nat.le_of_ble_eq_true rfl⟩ ht_X4_110 dX4_nearest_20 (s_X4_hasBit x4 a1 w2) rfl rfl (Nat.le_of_ble_eq_true rfl) (fun x6 w5 => ?_)
    refine e_if_eq (pc := 23) (tgt := 34) dX4_nearest_23 (by decide) (fun _ => ?_) (fun _ => ?_)
    · refine e_bipush (pc := 34) dX4_nearest_34 kb_m3 ?_
      exact e_iret (pc := 36) dX4_nearest_36 rfl rfl
    · refine e_aload_n (pc := 26) dX4_nearest_26 rfl rfl ?_
      refine e_iload_n (pc := 27) dX4_nearest_27 rfl rfl ?_
      refine e_callV (pc := 28) (av := [.int a1]) (S := []) (c0 := 3) rfl rfl ok_X4_nearestOf ⟨Nat.le_of_ble_eq_true rfl, Nat.le_of_ble_eq_true rfl⟩ hv_X4_99 dX4_nearest_28 (s_X4_nearestOf a0 a1 w5) rfl rfl (Nat.le_of_ble_eq_true rfl) (fun x8 w7 => ?_)
      refine e_goto (pc := 31) (tgt := 36) dX4_nearest_31 (by decide) ?_
      exact e_iret (pc := 36) dX4_nearest_36 rfl rfl
  · refine e_iconst (pc := 13) dX4_nearest_13 kc_m1 ?_
    exact e_iret (pc := 14) dX4_nearest_14 rfl rfl
def M_X4_leastOf : aM := (yX4_leastOf, cX4_leastOf, 1, (some .long), 0, 0)
theorem ok_X4_leastOf : a_okM M_X4_leastOf 1 := ⟨⟨by decide +kernel, by decide +kernel⟩, by decide +kernel, a_in 1335 (by decide +kernel) rfl, a_in 79 (by decide +kernel) rfl⟩
theorem dX4_leastOf_0 : decode M_X4_leastOf.2.1 0 = .ok (.iload_n 0, 1) := by decide +kernel
theorem dX4_leastOf_1 : decode M_X4_leastOf.2.1 1 = .ok (.ifCond .ne 9, 3) := by decide +kernel
theorem dX4_leastOf_4 : decode M_X4_leastOf.2.1 4 = .ok (.ldc2_w 324, 3) := by decide +kernel
theorem dX4_leastOf_7 : decode M_X4_leastOf.2.1 7 = .ok (.goto 17, 3) := by decide +kernel
theorem dX4_leastOf_10 : decode M_X4_leastOf.2.1 10 = .ok (.iload_n 0, 1) := by decide +kernel
theorem dX4_leastOf_11 : decode M_X4_leastOf.2.1 11 = .ok (.iconst 1, 1) := by decide +kernel
theorem dX4_leastOf_12 : decode M_X4_leastOf.2.1 12 = .ok (.if_icmp .ne 9, 3) := by decide +kernel
theorem dX4_leastOf_15 : decode M_X4_leastOf.2.1 15 = .ok (.ldc2_w 326, 3) := by decide +kernel
theorem dX4_leastOf_18 : decode M_X4_leastOf.2.1 18 = .ok (.goto 6, 3) := by decide +kernel
theorem dX4_leastOf_21 : decode M_X4_leastOf.2.1 21 = .ok (.ldc2_w 328, 3) := by decide +kernel
theorem dX4_leastOf_24 : decode M_X4_leastOf.2.1 24 = .ok (.lreturn, 1) := by decide +kernel
def f_X4_leastOf (a0 : Int32) (w : aW) : Option (Int64 × aW) :=
  if ¬ a0 = (0 : Int32) then
    if ¬ a0 = (1 : Int32) then
      some ((-2147483648 : Int64), w)
    else
      some ((-32768 : Int64), w)
  else
    some ((-128 : Int64), w)
theorem s_X4_leastOf (a0 : Int32) (w : aW) : Sp rvL M_X4_leastOf [.int a0] w (f_X4_leastOf a0 w) := by
  refine e_entry [some (.int a0)] (by decide +kernel) (Nat.le_of_ble_eq_true rfl) (fun _ => rfl) ?_
  unfold f_X4_leastOf
  refine e_iload_n (pc := 0) dX4_leastOf_0 rfl rfl ?_
  refine e_if_ne (pc := 1) (tgt := 10) dX4_leastOf_1 (by decide) (fun _ => ?_) (fun _ => ?_)
  · refine e_iload_n (pc := 10) dX4_leastOf_10 rfl rfl ?_
    refine e_iconst (pc := 11) dX4_leastOf_11 kc_1 ?_
    refine e_icmp_ne (pc := 12) (tgt := 21) dX4_leastOf_12 (by decide) (fun _ => ?_) (fun _ => ?_)
    · refine e_ldc2 (pc := 21) (v := -2147483648) dX4_leastOf_21 (a_in 1338 (by decide +kernel) rfl) ?_
      exact e_lret (pc := 24) dX4_leastOf_24 rfl
    · refine e_ldc2 (pc := 15) (v := -32768) dX4_leastOf_15 (a_in 1337 (by decide +kernel) rfl) ?_
      refine e_goto (pc := 18) (tgt := 24) dX4_leastOf_18 (by decide) ?_
      exact e_lret (pc := 24) dX4_leastOf_24 rfl
  · refine e_ldc2 (pc := 4) (v := -128) dX4_leastOf_4 (a_in 1336 (by decide +kernel) rfl) ?_
    refine e_goto (pc := 7) (tgt := 24) dX4_leastOf_7 (by decide) ?_
    exact e_lret (pc := 24) dX4_leastOf_24 rfl
def M_X4_isSkipped : aM := (yX4_isSkipped, cX4_isSkipped, 3, (some .boolean), 1, 20)
theorem ok_X4_isSkipped : a_okM M_X4_isSkipped 2 := ⟨⟨by decide +kernel, by decide +kernel⟩, by decide +kernel, a_in 1332 (by decide +kernel) rfl, a_in 79 (by decide +kernel) rfl⟩
theorem dX4_isSkipped_0 : decode M_X4_isSkipped.2.1 0 = .ok (.aload_n 0, 1) := by decide +kernel
theorem dX4_isSkipped_1 : decode M_X4_isSkipped.2.1 1 = .ok (.getfield 52, 3) := by decide +kernel
theorem dX4_isSkipped_4 : decode M_X4_isSkipped.2.1 4 = .ok (.bipush 100, 2) := by decide +kernel
theorem dX4_isSkipped_6 : decode M_X4_isSkipped.2.1 6 = .ok (.iload_n 1, 1) := by decide +kernel
theorem dX4_isSkipped_7 : decode M_X4_isSkipped.2.1 7 = .ok (.imul, 1) := by decide +kernel
theorem dX4_isSkipped_8 : decode M_X4_isSkipped.2.1 8 = .ok (.iload_n 2, 1) := by decide +kernel
theorem dX4_isSkipped_9 : decode M_X4_isSkipped.2.1 9 = .ok (.iadd, 1) := by decide +kernel
theorem dX4_isSkipped_10 : decode M_X4_isSkipped.2.1 10 = .ok (.laload, 1) := by decide +kernel
theorem dX4_isSkipped_11 : decode M_X4_isSkipped.2.1 11 = .ok (.aload_n 0, 1) := by decide +kernel
theorem dX4_isSkipped_12 : decode M_X4_isSkipped.2.1 12 = .ok (.getfield 46, 3) := by decide +kernel
theorem dX4_isSkipped_15 : decode M_X4_isSkipped.2.1 15 = .ok (.iload_n 1, 1) := by decide +kernel
theorem dX4_isSkipped_16 : decode M_X4_isSkipped.2.1 16 = .ok (.iaload, 1) := by decide +kernel
theorem dX4_isSkipped_17 : decode M_X4_isSkipped.2.1 17 = .ok (.invokestatic 330, 3) := by decide +kernel
theorem dX4_isSkipped_20 : decode M_X4_isSkipped.2.1 20 = .ok (.lcmp, 1) := by decide +kernel
theorem dX4_isSkipped_21 : decode M_X4_isSkipped.2.1 21 = .ok (.ifCond .ne 7, 3) := by decide +kernel
theorem dX4_isSkipped_24 : decode M_X4_isSkipped.2.1 24 = .ok (.iconst 1, 1) := by decide +kernel
theorem dX4_isSkipped_25 : decode M_X4_isSkipped.2.1 25 = .ok (.goto 4, 3) := by decide +kernel
theorem dX4_isSkipped_28 : decode M_X4_isSkipped.2.1 28 = .ok (.iconst 0, 1) := by decide +kernel
theorem dX4_isSkipped_29 : decode M_X4_isSkipped.2.1 29 = .ok (.ireturn, 1) := by decide +kernel
theorem ht_X4_330 : a_okS RX4 M_X4_leastOf 330 := ⟨a_in 1333 (by decide +kernel) rfl, a_in 1334 (by decide +kernel) rfl⟩
def f_X4_isSkipped (a0 : Nat) (a1 : Int32) (a2 : Int32) (w : aW) : Option (Int32 × aW) :=
  (gR 3 w a0 18).bind fun r1 =>
  (gL w r1 (((100 : Int32) * a1) + a2)).bind fun x2 =>
  (gR 3 w a0 16).bind fun r3 =>
  (gA w r3 a1).bind fun x4 =>
  bk (f_X4_leastOf x4 w) fun x6 w5 =>
  if ¬ (lg_cmp x2 x6) = (0 : Int32) then
    some ((0 : Int32), w5)
  else
    some ((1 : Int32), w5)
theorem s_X4_isSkipped (a0 : Nat) (a1 : Int32) (a2 : Int32) (w : aW) : Sp rvI M_X4_isSkipped [.ref a0, .int a1, .int a2] w (f_X4_isSkipped a0 a1 a2 w) := by
  refine e_entry [some (.ref a0), some (.int a1), some (.int a2)] (by decide +kernel) (Nat.le_of_ble_eq_true rfl) (fun _ => rfl) ?_
  unfold f_X4_isSkipped
  refine e_aload_n (pc := 0) dX4_isSkipped_0 rfl rfl ?_
  refine e_getR (pc := 1) dX4_isSkipped_1 hs_X4_52 (fun r1 => ?_)
  refine e_bipush (pc := 4) dX4_isSkipped_4 kb_100 ?_
  refine e_iload_n (pc := 6) dX4_isSkipped_6 rfl rfl ?_
  refine e_imul (pc := 7) dX4_isSkipped_7 ?_
  refine e_iload_n (pc := 8) dX4_isSkipped_8 rfl rfl ?_
  refine e_iadd (pc := 9) dX4_isSkipped_9 ?_
  refine e_lald (pc := 10) dX4_isSkipped_10 (fun x2 => ?_)
  refine e_aload_n (pc := 11) dX4_isSkipped_11 rfl rfl ?_
  refine e_getR (pc := 12) dX4_isSkipped_12 hs_X4_46 (fun r3 => ?_)
  refine e_iload_n (pc := 15) dX4_isSkipped_15 rfl rfl ?_
  refine e_iald (pc := 16) dX4_isSkipped_16 (fun x4 => ?_)
  refine e_callS (pc := 17) (av := [.int x4]) (S := [.long x2]) ok_X4_leastOf ⟨Nat.le_of_ble_eq_true rfl, Nat.le_of_ble_eq_true rfl⟩ ht_X4_330 dX4_isSkipped_17 (s_X4_leastOf x4 w) rfl rfl (Nat.le_of_ble_eq_true rfl) (fun x6 w5 => ?_)
  refine e_lcmp (pc := 20) dX4_isSkipped_20 ?_
  refine e_if_ne (pc := 21) (tgt := 28) dX4_isSkipped_21 (by decide) (fun _ => ?_) (fun _ => ?_)
  · refine e_iconst (pc := 28) dX4_isSkipped_28 kc_0 ?_
    exact e_iret (pc := 29) dX4_isSkipped_29 rfl (a_nb (by decide))
  · refine e_iconst (pc := 24) dX4_isSkipped_24 kc_1 ?_
    refine e_goto (pc := 25) (tgt := 29) dX4_isSkipped_25 (by decide) ?_
    exact e_iret (pc := 29) dX4_isSkipped_29 rfl (a_nb (by decide))
def M_X4_isPlaceRow : aM := (yX4_isPlaceRow, cX4_isPlaceRow, 6, (some .boolean), 6, 135)
theorem ok_X4_isPlaceRow : a_okM M_X4_isPlaceRow 3 := ⟨⟨by decide +kernel, by decide +kernel⟩, by decide +kernel, a_in 1328 (by decide +kernel) rfl, a_in 79 (by decide +kernel) rfl⟩
theorem dX4_isPlaceRow_0 : decode M_X4_isPlaceRow.2.1 0 = .ok (.iconst 1, 1) := by decide +kernel
theorem dX4_isPlaceRow_1 : decode M_X4_isPlaceRow.2.1 1 = .ok (.istore 4, 2) := by decide +kernel
theorem dX4_isPlaceRow_3 : decode M_X4_isPlaceRow.2.1 3 = .ok (.aload_n 0, 1) := by decide +kernel
theorem dX4_isPlaceRow_4 : decode M_X4_isPlaceRow.2.1 4 = .ok (.iload_n 3, 1) := by decide +kernel
theorem dX4_isPlaceRow_5 : decode M_X4_isPlaceRow.2.1 5 = .ok (.invokevirtual 193, 3) := by decide +kernel
theorem dX4_isPlaceRow_8 : decode M_X4_isPlaceRow.2.1 8 = .ok (.iconst 0, 1) := by decide +kernel
theorem dX4_isPlaceRow_9 : decode M_X4_isPlaceRow.2.1 9 = .ok (.istore 5, 2) := by decide +kernel
theorem dX4_isPlaceRow_11 : decode M_X4_isPlaceRow.2.1 11 = .ok (.iload 5, 2) := by decide +kernel
theorem dX4_isPlaceRow_13 : decode M_X4_isPlaceRow.2.1 13 = .ok (.aload_n 0, 1) := by decide +kernel
theorem dX4_isPlaceRow_14 : decode M_X4_isPlaceRow.2.1 14 = .ok (.getfield 49, 3) := by decide +kernel
theorem dX4_isPlaceRow_17 : decode M_X4_isPlaceRow.2.1 17 = .ok (.iload_n 1, 1) := by decide +kernel
theorem dX4_isPlaceRow_18 : decode M_X4_isPlaceRow.2.1 18 = .ok (.iaload, 1) := by decide +kernel
theorem dX4_isPlaceRow_19 : decode M_X4_isPlaceRow.2.1 19 = .ok (.if_icmp .ge 58, 3) := by decide +kernel
theorem dX4_isPlaceRow_22 : decode M_X4_isPlaceRow.2.1 22 = .ok (.iload 4, 2) := by decide +kernel
theorem dX4_isPlaceRow_24 : decode M_X4_isPlaceRow.2.1 24 = .ok (.ifCond .eq 53, 3) := by decide +kernel
theorem dX4_isPlaceRow_27 : decode M_X4_isPlaceRow.2.1 27 = .ok (.aload_n 0, 1) := by decide +kernel
theorem dX4_isPlaceRow_28 : decode M_X4_isPlaceRow.2.1 28 = .ok (.iload_n 1, 1) := by decide +kernel
theorem dX4_isPlaceRow_29 : decode M_X4_isPlaceRow.2.1 29 = .ok (.iload 5, 2) := by decide +kernel
theorem dX4_isPlaceRow_31 : decode M_X4_isPlaceRow.2.1 31 = .ok (.invokevirtual 334, 3) := by decide +kernel
theorem dX4_isPlaceRow_34 : decode M_X4_isPlaceRow.2.1 34 = .ok (.ifCond .ne 26, 3) := by decide +kernel
theorem dX4_isPlaceRow_37 : decode M_X4_isPlaceRow.2.1 37 = .ok (.aload_n 0, 1) := by decide +kernel
theorem dX4_isPlaceRow_38 : decode M_X4_isPlaceRow.2.1 38 = .ok (.getfield 52, 3) := by decide +kernel
theorem dX4_isPlaceRow_41 : decode M_X4_isPlaceRow.2.1 41 = .ok (.bipush 100, 2) := by decide +kernel
theorem dX4_isPlaceRow_43 : decode M_X4_isPlaceRow.2.1 43 = .ok (.iload_n 1, 1) := by decide +kernel
theorem dX4_isPlaceRow_44 : decode M_X4_isPlaceRow.2.1 44 = .ok (.imul, 1) := by decide +kernel
theorem dX4_isPlaceRow_45 : decode M_X4_isPlaceRow.2.1 45 = .ok (.iload 5, 2) := by decide +kernel
theorem dX4_isPlaceRow_47 : decode M_X4_isPlaceRow.2.1 47 = .ok (.iadd, 1) := by decide +kernel
theorem dX4_isPlaceRow_48 : decode M_X4_isPlaceRow.2.1 48 = .ok (.laload, 1) := by decide +kernel
theorem dX4_isPlaceRow_49 : decode M_X4_isPlaceRow.2.1 49 = .ok (.aload_n 0, 1) := by decide +kernel
theorem dX4_isPlaceRow_50 : decode M_X4_isPlaceRow.2.1 50 = .ok (.getfield 16, 3) := by decide +kernel
theorem dX4_isPlaceRow_53 : decode M_X4_isPlaceRow.2.1 53 = .ok (.iload_n 2, 1) := by decide +kernel
theorem dX4_isPlaceRow_54 : decode M_X4_isPlaceRow.2.1 54 = .ok (.iaload, 1) := by decide +kernel
theorem dX4_isPlaceRow_55 : decode M_X4_isPlaceRow.2.1 55 = .ok (.i2l, 1) := by decide +kernel
theorem dX4_isPlaceRow_56 : decode M_X4_isPlaceRow.2.1 56 = .ok (.lcmp, 1) := by decide +kernel
theorem dX4_isPlaceRow_57 : decode M_X4_isPlaceRow.2.1 57 = .ok (.ifCond .ne 7, 3) := by decide +kernel
theorem dX4_isPlaceRow_60 : decode M_X4_isPlaceRow.2.1 60 = .ok (.iconst 1, 1) := by decide +kernel
theorem dX4_isPlaceRow_61 : decode M_X4_isPlaceRow.2.1 61 = .ok (.goto 4, 3) := by decide +kernel
theorem dX4_isPlaceRow_64 : decode M_X4_isPlaceRow.2.1 64 = .ok (.iconst 0, 1) := by decide +kernel
theorem dX4_isPlaceRow_65 : decode M_X4_isPlaceRow.2.1 65 = .ok (.istore 4, 2) := by decide +kernel
theorem dX4_isPlaceRow_67 : decode M_X4_isPlaceRow.2.1 67 = .ok (.aload_n 0, 1) := by decide +kernel
theorem dX4_isPlaceRow_68 : decode M_X4_isPlaceRow.2.1 68 = .ok (.invokevirtual 149, 3) := by decide +kernel
theorem dX4_isPlaceRow_71 : decode M_X4_isPlaceRow.2.1 71 = .ok (.iinc 5 1, 3) := by decide +kernel
theorem dX4_isPlaceRow_74 : decode M_X4_isPlaceRow.2.1 74 = .ok (.goto (-63), 3) := by decide +kernel
theorem dX4_isPlaceRow_77 : decode M_X4_isPlaceRow.2.1 77 = .ok (.aload_n 0, 1) := by decide +kernel
theorem dX4_isPlaceRow_78 : decode M_X4_isPlaceRow.2.1 78 = .ok (.invokevirtual 227, 3) := by decide +kernel
theorem dX4_isPlaceRow_81 : decode M_X4_isPlaceRow.2.1 81 = .ok (.iload 4, 2) := by decide +kernel
theorem dX4_isPlaceRow_83 : decode M_X4_isPlaceRow.2.1 83 = .ok (.ireturn, 1) := by decide +kernel
theorem hv_X4_334 : a_okV RX4 M_X4_isSkipped 334 := ⟨a_in 1329 (by decide +kernel) rfl, a_in 1331 (by decide +kernel) rfl, a_in 69 (by decide +kernel) rfl⟩
def c_X4_isPlaceRow_11 (a0 : Nat) (a1 : Int32) (a2 : Int32) (a3 : Int32) (k11 : Int32 → Int32 → aW → Option (Int32 × aW)) (b4 : Int32) (b5 : Int32) (w : aW) : Option (Int32 × aW) :=
  (gR 3 w a0 17).bind fun r2 =>
  (gA w r2 a1).bind fun x3 =>
  if x3 ≤ b5 then
    cV 3 w a0 (bk (f_X4_again a0 w) fun _ w4 =>
    if ¬ (b4 = 0 ∨ b4 = 1) then none else some (b4, w4))
  else
    if b4 = (0 : Int32) then
      cV 3 w a0 (bk (f_X4_again a0 w) fun _ w6 =>
      if ¬ (b4 = 0 ∨ b4 = 1) then none else some (b4, w6))
    else
      cV 3 w a0 (bk (f_X4_isSkipped a0 a1 b5 w) fun x9 w8 =>
      if ¬ x9 = (0 : Int32) then
        cV 3 w8 a0 (bk (f_X4_dayOn a0 w8) fun _ w10 =>
        k11 (1 : Int32) (b5 + 1) w10)
      else
        (gR 3 w8 a0 18).bind fun r11 =>
        (gL w8 r11 (((100 : Int32) * a1) + b5)).bind fun x12 =>
        (gR 3 w8 a0 3).bind fun r13 =>
        (gA w8 r13 a2).bind fun x14 =>
        if ¬ (lg_cmp x12 x14.toInt64) = (0 : Int32) then
          cV 3 w8 a0 (bk (f_X4_dayOn a0 w8) fun _ w15 =>
          k11 (0 : Int32) (b5 + 1) w15)
        else
          cV 3 w8 a0 (bk (f_X4_dayOn a0 w8) fun _ w16 =>
          k11 (1 : Int32) (b5 + 1) w16))
theorem t_X4_isPlaceRow_11 (a0 : Nat) (a1 : Int32) (a2 : Int32) (a3 : Int32) (k11 : Int32 → Int32 → aW → Option (Int32 × aW)) (hk11 : ∀ (b4 : Int32) (b5 : Int32) (w : aW), Ev rvI M_X4_isPlaceRow 11 [some (.ref a0), some (.int a1), some (.int a2), none, some (.int b4), some (.int b5)] [] w (k11 b4 b5 w)) (b4 : Int32) (b5 : Int32) (w : aW) : Ev rvI M_X4_isPlaceRow 11 [some (.ref a0), some (.int a1), some (.int a2), none, some (.int b4), some (.int b5)] [] w (c_X4_isPlaceRow_11 a0 a1 a2 a3 k11 b4 b5 w) := by
  unfold c_X4_isPlaceRow_11
  refine e_iload (pc := 11) dX4_isPlaceRow_11 rfl ?_
  refine e_aload_n (pc := 13) dX4_isPlaceRow_13 rfl rfl ?_
  refine e_getR (pc := 14) dX4_isPlaceRow_14 hs_X4_49 (fun r2 => ?_)
  refine e_iload_n (pc := 17) dX4_isPlaceRow_17 rfl rfl ?_
  refine e_iald (pc := 18) dX4_isPlaceRow_18 (fun x3 => ?_)
  refine e_icmp_ge (pc := 19) (tgt := 77) dX4_isPlaceRow_19 (by decide) (fun _ => ?_) (fun _ => ?_)
  · refine e_aload_n (pc := 77) dX4_isPlaceRow_77 rfl rfl ?_
    refine e_callV (pc := 78) (av := []) (S := []) (c0 := 3) rfl rfl ok_X4_again ⟨Nat.le_of_ble_eq_true rfl, Nat.le_of_ble_eq_true rfl⟩ hv_X4_227 dX4_isPlaceRow_78 (s_X4_again a0 w) rfl rfl (Nat.le_of_ble_eq_true rfl) (fun _ w4 => ?_)
    refine e_iload (pc := 81) dX4_isPlaceRow_81 rfl ?_
    refine e_chk (fun h5 => ?_)
    exact e_iret (pc := 83) dX4_isPlaceRow_83 rfl (a_nb (Decidable.not_not.mp h5))
  · refine e_iload (pc := 22) dX4_isPlaceRow_22 rfl ?_
    refine e_if_eq (pc := 24) (tgt := 77) dX4_isPlaceRow_24 (by decide) (fun _ => ?_) (fun _ => ?_)
    · refine e_aload_n (pc := 77) dX4_isPlaceRow_77 rfl rfl ?_
      refine e_callV (pc := 78) (av := []) (S := []) (c0 := 3) rfl rfl ok_X4_again ⟨Nat.le_of_ble_eq_true rfl, Nat.le_of_ble_eq_true rfl⟩ hv_X4_227 dX4_isPlaceRow_78 (s_X4_again a0 w) rfl rfl (Nat.le_of_ble_eq_true rfl) (fun _ w6 => ?_)
      refine e_iload (pc := 81) dX4_isPlaceRow_81 rfl ?_
      refine e_chk (fun h7 => ?_)
      exact e_iret (pc := 83) dX4_isPlaceRow_83 rfl (a_nb (Decidable.not_not.mp h7))
    · refine e_aload_n (pc := 27) dX4_isPlaceRow_27 rfl rfl ?_
      refine e_iload_n (pc := 28) dX4_isPlaceRow_28 rfl rfl ?_
      refine e_iload (pc := 29) dX4_isPlaceRow_29 rfl ?_
      refine e_callV (pc := 31) (av := [.int a1, .int b5]) (S := []) (c0 := 3) rfl rfl ok_X4_isSkipped ⟨Nat.le_of_ble_eq_true rfl, Nat.le_of_ble_eq_true rfl⟩ hv_X4_334 dX4_isPlaceRow_31 (s_X4_isSkipped a0 a1 b5 w) rfl rfl (Nat.le_of_ble_eq_true rfl) (fun x9 w8 => ?_)
      refine e_if_ne (pc := 34) (tgt := 60) dX4_isPlaceRow_34 (by decide) (fun _ => ?_) (fun _ => ?_)
      · refine e_iconst (pc := 60) dX4_isPlaceRow_60 kc_1 ?_
        refine e_goto (pc := 61) (tgt := 65) dX4_isPlaceRow_61 (by decide) ?_
        refine e_istore (L' := [some (.ref a0), some (.int a1), some (.int a2), none, some (.int (1 : Int32)), some (.int b5)]) (pc := 65) dX4_isPlaceRow_65 (by decide) rfl ?_
        refine e_aload_n (pc := 67) dX4_isPlaceRow_67 rfl rfl ?_
        refine e_callV (pc := 68) (av := []) (S := []) (c0 := 3) rfl rfl ok_X4_dayOn ⟨Nat.le_of_ble_eq_true rfl, Nat.le_of_ble_eq_true rfl⟩ hv_X4_149 dX4_isPlaceRow_68 (s_X4_dayOn a0 w8) rfl rfl (Nat.le_of_ble_eq_true rfl) (fun _ w10 => ?_)
        refine e_iinc (L' := [some (.ref a0), some (.int a1), some (.int a2), none, some (.int (1 : Int32)), some (.int (b5 + 1))]) (pc := 71) (v := 1) dX4_isPlaceRow_71 (by decide) rfl kc_1 rfl ?_
        refine e_goto (pc := 74) (tgt := 11) dX4_isPlaceRow_74 (by decide) ?_
        exact hk11 (1 : Int32) (b5 + 1) w10
      · refine e_aload_n (pc := 37) dX4_isPlaceRow_37 rfl rfl ?_
        refine e_getR (pc := 38) dX4_isPlaceRow_38 hs_X4_52 (fun r11 => ?_)
        refine e_bipush (pc := 41) dX4_isPlaceRow_41 kb_100 ?_
        refine e_iload_n (pc := 43) dX4_isPlaceRow_43 rfl rfl ?_
        refine e_imul (pc := 44) dX4_isPlaceRow_44 ?_
        refine e_iload (pc := 45) dX4_isPlaceRow_45 rfl ?_
        refine e_iadd (pc := 47) dX4_isPlaceRow_47 ?_
        refine e_lald (pc := 48) dX4_isPlaceRow_48 (fun x12 => ?_)
        refine e_aload_n (pc := 49) dX4_isPlaceRow_49 rfl rfl ?_
        refine e_getR (pc := 50) dX4_isPlaceRow_50 hs_X4_16 (fun r13 => ?_)
        refine e_iload_n (pc := 53) dX4_isPlaceRow_53 rfl rfl ?_
        refine e_iald (pc := 54) dX4_isPlaceRow_54 (fun x14 => ?_)
        refine e_i2l (pc := 55) dX4_isPlaceRow_55 ?_
        refine e_lcmp (pc := 56) dX4_isPlaceRow_56 ?_
        refine e_if_ne (pc := 57) (tgt := 64) dX4_isPlaceRow_57 (by decide) (fun _ => ?_) (fun _ => ?_)
        · refine e_iconst (pc := 64) dX4_isPlaceRow_64 kc_0 ?_
          refine e_istore (L' := [some (.ref a0), some (.int a1), some (.int a2), none, some (.int (0 : Int32)), some (.int b5)]) (pc := 65) dX4_isPlaceRow_65 (by decide) rfl ?_
          refine e_aload_n (pc := 67) dX4_isPlaceRow_67 rfl rfl ?_
          refine e_callV (pc := 68) (av := []) (S := []) (c0 := 3) rfl rfl ok_X4_dayOn ⟨Nat.le_of_ble_eq_true rfl, Nat.le_of_ble_eq_true rfl⟩ hv_X4_149 dX4_isPlaceRow_68 (s_X4_dayOn a0 w8) rfl rfl (Nat.le_of_ble_eq_true rfl) (fun _ w15 => ?_)
          refine e_iinc (L' := [some (.ref a0), some (.int a1), some (.int a2), none, some (.int (0 : Int32)), some (.int (b5 + 1))]) (pc := 71) (v := 1) dX4_isPlaceRow_71 (by decide) rfl kc_1 rfl ?_
          refine e_goto (pc := 74) (tgt := 11) dX4_isPlaceRow_74 (by decide) ?_
          exact hk11 (0 : Int32) (b5 + 1) w15
        · refine e_iconst (pc := 60) dX4_isPlaceRow_60 kc_1 ?_
          refine e_goto (pc := 61) (tgt := 65) dX4_isPlaceRow_61 (by decide) ?_
          refine e_istore (L' := [some (.ref a0), some (.int a1), some (.int a2), none, some (.int (1 : Int32)), some (.int b5)]) (pc := 65) dX4_isPlaceRow_65 (by decide) rfl ?_
          refine e_aload_n (pc := 67) dX4_isPlaceRow_67 rfl rfl ?_
          refine e_callV (pc := 68) (av := []) (S := []) (c0 := 3) rfl rfl ok_X4_dayOn ⟨Nat.le_of_ble_eq_true rfl, Nat.le_of_ble_eq_true rfl⟩ hv_X4_149 dX4_isPlaceRow_68 (s_X4_dayOn a0 w8) rfl rfl (Nat.le_of_ble_eq_true rfl) (fun _ w16 => ?_)
          refine e_iinc (L' := [some (.ref a0), some (.int a1), some (.int a2), none, some (.int (1 : Int32)), some (.int (b5 + 1))]) (pc := 71) (v := 1) dX4_isPlaceRow_71 (by decide) rfl kc_1 rfl ?_
          refine e_goto (pc := 74) (tgt := 11) dX4_isPlaceRow_74 (by decide) ?_
          exact hk11 (1 : Int32) (b5 + 1) w16
def f_X4_isPlaceRow (a0 : Nat) (a1 : Int32) (a2 : Int32) (a3 : Int32) (w : aW) : Option (Int32 × aW) :=
  cV 3 w a0 (bk (f_X4_goDays a0 a3 w) fun _ w1 =>
  loop3 (c_X4_isPlaceRow_11 a0 a1 a2 a3) a_fuel (1 : Int32) (0 : Int32) w1)
theorem s_X4_isPlaceRow (a0 : Nat) (a1 : Int32) (a2 : Int32) (a3 : Int32) (w : aW) : Sp rvI M_X4_isPlaceRow [.ref a0, .int a1, .int a2, .int a3] w (f_X4_isPlaceRow a0 a1 a2 a3 w) := by
  refine e_entry [some (.ref a0), some (.int a1), some (.int a2), some (.int a3), none, none] (by decide +kernel) (Nat.le_of_ble_eq_true rfl) (fun _ => rfl) ?_
  unfold f_X4_isPlaceRow
  refine e_iconst (pc := 0) dX4_isPlaceRow_0 kc_1 ?_
  refine e_istore (L' := [some (.ref a0), some (.int a1), some (.int a2), some (.int a3), some (.int (1 : Int32)), none]) (pc := 1) dX4_isPlaceRow_1 (by decide) rfl ?_
  refine e_aload_n (pc := 3) dX4_isPlaceRow_3 rfl rfl ?_
  refine e_iload_n (pc := 4) dX4_isPlaceRow_4 rfl rfl ?_
  refine e_callV (pc := 5) (av := [.int a3]) (S := []) (c0 := 3) rfl rfl ok_X4_goDays ⟨Nat.le_of_ble_eq_true rfl, Nat.le_of_ble_eq_true rfl⟩ hv_X4_193 dX4_isPlaceRow_5 (s_X4_goDays a0 a3 w) rfl rfl (Nat.le_of_ble_eq_true rfl) (fun _ w1 => ?_)
  refine e_iconst (pc := 8) dX4_isPlaceRow_8 kc_0 ?_
  refine e_istore (L' := [some (.ref a0), some (.int a1), some (.int a2), some (.int a3), some (.int (1 : Int32)), some (.int (0 : Int32))]) (pc := 9) dX4_isPlaceRow_9 (by decide) rfl ?_
  refine e_forget (L2 := [some (.ref a0), some (.int a1), some (.int a2), none, some (.int (1 : Int32)), some (.int (0 : Int32))]) (And.intro rfl (And.intro rfl (And.intro rfl (And.intro rfl (And.intro rfl trivial))))) ?_
  exact e_loop3 (L := fun b4 b5 => [some (.ref a0), some (.int a1), some (.int a2), none, some (.int b4), some (.int b5)]) (S := fun b4 b5 => []) (fun kf hkf => t_X4_isPlaceRow_11 a0 a1 a2 a3  kf hkf) _ (1 : Int32) (0 : Int32) w1
def M_X4_isHungerRow : aM := (yX4_isHungerRow, cX4_isHungerRow, 5, (some .boolean), 5, 113)
theorem ok_X4_isHungerRow : a_okM M_X4_isHungerRow 2 := ⟨⟨by decide +kernel, by decide +kernel⟩, by decide +kernel, a_in 1354 (by decide +kernel) rfl, a_in 79 (by decide +kernel) rfl⟩
theorem dX4_isHungerRow_0 : decode M_X4_isHungerRow.2.1 0 = .ok (.iconst 1, 1) := by decide +kernel
theorem dX4_isHungerRow_1 : decode M_X4_isHungerRow.2.1 1 = .ok (.istore_n 3, 1) := by decide +kernel
theorem dX4_isHungerRow_2 : decode M_X4_isHungerRow.2.1 2 = .ok (.iconst 0, 1) := by decide +kernel
theorem dX4_isHungerRow_3 : decode M_X4_isHungerRow.2.1 3 = .ok (.istore 4, 2) := by decide +kernel
theorem dX4_isHungerRow_5 : decode M_X4_isHungerRow.2.1 5 = .ok (.iload 4, 2) := by decide +kernel
theorem dX4_isHungerRow_7 : decode M_X4_isHungerRow.2.1 7 = .ok (.aload_n 0, 1) := by decide +kernel
theorem dX4_isHungerRow_8 : decode M_X4_isHungerRow.2.1 8 = .ok (.getfield 49, 3) := by decide +kernel
theorem dX4_isHungerRow_11 : decode M_X4_isHungerRow.2.1 11 = .ok (.iload_n 1, 1) := by decide +kernel
theorem dX4_isHungerRow_12 : decode M_X4_isHungerRow.2.1 12 = .ok (.iaload, 1) := by decide +kernel
theorem dX4_isHungerRow_13 : decode M_X4_isHungerRow.2.1 13 = .ok (.if_icmp .ge 56, 3) := by decide +kernel
theorem dX4_isHungerRow_16 : decode M_X4_isHungerRow.2.1 16 = .ok (.iload_n 3, 1) := by decide +kernel
theorem dX4_isHungerRow_17 : decode M_X4_isHungerRow.2.1 17 = .ok (.ifCond .eq 52, 3) := by decide +kernel
theorem dX4_isHungerRow_20 : decode M_X4_isHungerRow.2.1 20 = .ok (.aload_n 0, 1) := by decide +kernel
theorem dX4_isHungerRow_21 : decode M_X4_isHungerRow.2.1 21 = .ok (.iload_n 1, 1) := by decide +kernel
theorem dX4_isHungerRow_22 : decode M_X4_isHungerRow.2.1 22 = .ok (.iload 4, 2) := by decide +kernel
theorem dX4_isHungerRow_24 : decode M_X4_isHungerRow.2.1 24 = .ok (.invokevirtual 334, 3) := by decide +kernel
theorem dX4_isHungerRow_27 : decode M_X4_isHungerRow.2.1 27 = .ok (.ifCond .ne 26, 3) := by decide +kernel
theorem dX4_isHungerRow_30 : decode M_X4_isHungerRow.2.1 30 = .ok (.aload_n 0, 1) := by decide +kernel
theorem dX4_isHungerRow_31 : decode M_X4_isHungerRow.2.1 31 = .ok (.getfield 52, 3) := by decide +kernel
theorem dX4_isHungerRow_34 : decode M_X4_isHungerRow.2.1 34 = .ok (.bipush 100, 2) := by decide +kernel
theorem dX4_isHungerRow_36 : decode M_X4_isHungerRow.2.1 36 = .ok (.iload_n 1, 1) := by decide +kernel
theorem dX4_isHungerRow_37 : decode M_X4_isHungerRow.2.1 37 = .ok (.imul, 1) := by decide +kernel
theorem dX4_isHungerRow_38 : decode M_X4_isHungerRow.2.1 38 = .ok (.iload 4, 2) := by decide +kernel
theorem dX4_isHungerRow_40 : decode M_X4_isHungerRow.2.1 40 = .ok (.iadd, 1) := by decide +kernel
theorem dX4_isHungerRow_41 : decode M_X4_isHungerRow.2.1 41 = .ok (.laload, 1) := by decide +kernel
theorem dX4_isHungerRow_42 : decode M_X4_isHungerRow.2.1 42 = .ok (.aload_n 0, 1) := by decide +kernel
theorem dX4_isHungerRow_43 : decode M_X4_isHungerRow.2.1 43 = .ok (.getfield 19, 3) := by decide +kernel
theorem dX4_isHungerRow_46 : decode M_X4_isHungerRow.2.1 46 = .ok (.iload_n 2, 1) := by decide +kernel
theorem dX4_isHungerRow_47 : decode M_X4_isHungerRow.2.1 47 = .ok (.iaload, 1) := by decide +kernel
theorem dX4_isHungerRow_48 : decode M_X4_isHungerRow.2.1 48 = .ok (.i2l, 1) := by decide +kernel
theorem dX4_isHungerRow_49 : decode M_X4_isHungerRow.2.1 49 = .ok (.lcmp, 1) := by decide +kernel
theorem dX4_isHungerRow_50 : decode M_X4_isHungerRow.2.1 50 = .ok (.ifCond .ne 7, 3) := by decide +kernel
theorem dX4_isHungerRow_53 : decode M_X4_isHungerRow.2.1 53 = .ok (.iconst 1, 1) := by decide +kernel
theorem dX4_isHungerRow_54 : decode M_X4_isHungerRow.2.1 54 = .ok (.goto 4, 3) := by decide +kernel
theorem dX4_isHungerRow_57 : decode M_X4_isHungerRow.2.1 57 = .ok (.iconst 0, 1) := by decide +kernel
theorem dX4_isHungerRow_58 : decode M_X4_isHungerRow.2.1 58 = .ok (.istore_n 3, 1) := by decide +kernel
theorem dX4_isHungerRow_59 : decode M_X4_isHungerRow.2.1 59 = .ok (.aload_n 0, 1) := by decide +kernel
theorem dX4_isHungerRow_60 : decode M_X4_isHungerRow.2.1 60 = .ok (.invokevirtual 149, 3) := by decide +kernel
theorem dX4_isHungerRow_63 : decode M_X4_isHungerRow.2.1 63 = .ok (.iinc 4 1, 3) := by decide +kernel
theorem dX4_isHungerRow_66 : decode M_X4_isHungerRow.2.1 66 = .ok (.goto (-61), 3) := by decide +kernel
theorem dX4_isHungerRow_69 : decode M_X4_isHungerRow.2.1 69 = .ok (.aload_n 0, 1) := by decide +kernel
theorem dX4_isHungerRow_70 : decode M_X4_isHungerRow.2.1 70 = .ok (.invokevirtual 227, 3) := by decide +kernel
theorem dX4_isHungerRow_73 : decode M_X4_isHungerRow.2.1 73 = .ok (.iload_n 3, 1) := by decide +kernel
theorem dX4_isHungerRow_74 : decode M_X4_isHungerRow.2.1 74 = .ok (.ireturn, 1) := by decide +kernel
def c_X4_isHungerRow_5 (a0 : Nat) (a1 : Int32) (a2 : Int32) (k5 : Int32 → Int32 → aW → Option (Int32 × aW)) (b3 : Int32) (b4 : Int32) (w : aW) : Option (Int32 × aW) :=
  (gR 3 w a0 17).bind fun r1 =>
  (gA w r1 a1).bind fun x2 =>
  if x2 ≤ b4 then
    cV 3 w a0 (bk (f_X4_again a0 w) fun _ w3 =>
    if ¬ (b3 = 0 ∨ b3 = 1) then none else some (b3, w3))
  else
    if b3 = (0 : Int32) then
      cV 3 w a0 (bk (f_X4_again a0 w) fun _ w5 =>
      if ¬ (b3 = 0 ∨ b3 = 1) then none else some (b3, w5))
    else
      cV 3 w a0 (bk (f_X4_isSkipped a0 a1 b4 w) fun x8 w7 =>
      if ¬ x8 = (0 : Int32) then
        cV 3 w7 a0 (bk (f_X4_dayOn a0 w7) fun _ w9 =>
        k5 (1 : Int32) (b4 + 1) w9)
      else
        (gR 3 w7 a0 18).bind fun r10 =>
        (gL w7 r10 (((100 : Int32) * a1) + b4)).bind fun x11 =>
        (gR 3 w7 a0 4).bind fun r12 =>
        (gA w7 r12 a2).bind fun x13 =>
        if ¬ (lg_cmp x11 x13.toInt64) = (0 : Int32) then
          cV 3 w7 a0 (bk (f_X4_dayOn a0 w7) fun _ w14 =>
          k5 (0 : Int32) (b4 + 1) w14)
        else
          cV 3 w7 a0 (bk (f_X4_dayOn a0 w7) fun _ w15 =>
          k5 (1 : Int32) (b4 + 1) w15))
theorem t_X4_isHungerRow_5 (a0 : Nat) (a1 : Int32) (a2 : Int32) (k5 : Int32 → Int32 → aW → Option (Int32 × aW)) (hk5 : ∀ (b3 : Int32) (b4 : Int32) (w : aW), Ev rvI M_X4_isHungerRow 5 [some (.ref a0), some (.int a1), some (.int a2), some (.int b3), some (.int b4)] [] w (k5 b3 b4 w)) (b3 : Int32) (b4 : Int32) (w : aW) : Ev rvI M_X4_isHungerRow 5 [some (.ref a0), some (.int a1), some (.int a2), some (.int b3), some (.int b4)] [] w (c_X4_isHungerRow_5 a0 a1 a2 k5 b3 b4 w) := by
  unfold c_X4_isHungerRow_5
  refine e_iload (pc := 5) dX4_isHungerRow_5 rfl ?_
  refine e_aload_n (pc := 7) dX4_isHungerRow_7 rfl rfl ?_
  refine e_getR (pc := 8) dX4_isHungerRow_8 hs_X4_49 (fun r1 => ?_)
  refine e_iload_n (pc := 11) dX4_isHungerRow_11 rfl rfl ?_
  refine e_iald (pc := 12) dX4_isHungerRow_12 (fun x2 => ?_)
  refine e_icmp_ge (pc := 13) (tgt := 69) dX4_isHungerRow_13 (by decide) (fun _ => ?_) (fun _ => ?_)
  · refine e_aload_n (pc := 69) dX4_isHungerRow_69 rfl rfl ?_
    refine e_callV (pc := 70) (av := []) (S := []) (c0 := 3) rfl rfl ok_X4_again ⟨Nat.le_of_ble_eq_true rfl, Nat.le_of_ble_eq_true rfl⟩ hv_X4_227 dX4_isHungerRow_70 (s_X4_again a0 w) rfl rfl (Nat.le_of_ble_eq_true rfl) (fun _ w3 => ?_)
    refine e_iload_n (pc := 73) dX4_isHungerRow_73 rfl rfl ?_
    refine e_chk (fun h4 => ?_)
    exact e_iret (pc := 74) dX4_isHungerRow_74 rfl (a_nb (Decidable.not_not.mp h4))
  · refine e_iload_n (pc := 16) dX4_isHungerRow_16 rfl rfl ?_
    refine e_if_eq (pc := 17) (tgt := 69) dX4_isHungerRow_17 (by decide) (fun _ => ?_) (fun _ => ?_)
    · refine e_aload_n (pc := 69) dX4_isHungerRow_69 rfl rfl ?_
      refine e_callV (pc := 70) (av := []) (S := []) (c0 := 3) rfl rfl ok_X4_again ⟨Nat.le_of_ble_eq_true rfl, Nat.le_of_ble_eq_true rfl⟩ hv_X4_227 dX4_isHungerRow_70 (s_X4_again a0 w) rfl rfl (Nat.le_of_ble_eq_true rfl) (fun _ w5 => ?_)
      refine e_iload_n (pc := 73) dX4_isHungerRow_73 rfl rfl ?_
      refine e_chk (fun h6 => ?_)
      exact e_iret (pc := 74) dX4_isHungerRow_74 rfl (a_nb (Decidable.not_not.mp h6))
    · refine e_aload_n (pc := 20) dX4_isHungerRow_20 rfl rfl ?_
      refine e_iload_n (pc := 21) dX4_isHungerRow_21 rfl rfl ?_
      refine e_iload (pc := 22) dX4_isHungerRow_22 rfl ?_
      refine e_callV (pc := 24) (av := [.int a1, .int b4]) (S := []) (c0 := 3) rfl rfl ok_X4_isSkipped ⟨Nat.le_of_ble_eq_true rfl, Nat.le_of_ble_eq_true rfl⟩ hv_X4_334 dX4_isHungerRow_24 (s_X4_isSkipped a0 a1 b4 w) rfl rfl (Nat.le_of_ble_eq_true rfl) (fun x8 w7 => ?_)
      refine e_if_ne (pc := 27) (tgt := 53) dX4_isHungerRow_27 (by decide) (fun _ => ?_) (fun _ => ?_)
      · refine e_iconst (pc := 53) dX4_isHungerRow_53 kc_1 ?_
        refine e_goto (pc := 54) (tgt := 58) dX4_isHungerRow_54 (by decide) ?_
        refine e_istore_n (L' := [some (.ref a0), some (.int a1), some (.int a2), some (.int (1 : Int32)), some (.int b4)]) (pc := 58) dX4_isHungerRow_58 rfl (by decide) rfl ?_
        refine e_aload_n (pc := 59) dX4_isHungerRow_59 rfl rfl ?_
        refine e_callV (pc := 60) (av := []) (S := []) (c0 := 3) rfl rfl ok_X4_dayOn ⟨Nat.le_of_ble_eq_true rfl, Nat.le_of_ble_eq_true rfl⟩ hv_X4_149 dX4_isHungerRow_60 (s_X4_dayOn a0 w7) rfl rfl (Nat.le_of_ble_eq_true rfl) (fun _ w9 => ?_)
        refine e_iinc (L' := [some (.ref a0), some (.int a1), some (.int a2), some (.int (1 : Int32)), some (.int (b4 + 1))]) (pc := 63) (v := 1) dX4_isHungerRow_63 (by decide) rfl kc_1 rfl ?_
        refine e_goto (pc := 66) (tgt := 5) dX4_isHungerRow_66 (by decide) ?_
        exact hk5 (1 : Int32) (b4 + 1) w9
      · refine e_aload_n (pc := 30) dX4_isHungerRow_30 rfl rfl ?_
        refine e_getR (pc := 31) dX4_isHungerRow_31 hs_X4_52 (fun r10 => ?_)
        refine e_bipush (pc := 34) dX4_isHungerRow_34 kb_100 ?_
        refine e_iload_n (pc := 36) dX4_isHungerRow_36 rfl rfl ?_
        refine e_imul (pc := 37) dX4_isHungerRow_37 ?_
        refine e_iload (pc := 38) dX4_isHungerRow_38 rfl ?_
        refine e_iadd (pc := 40) dX4_isHungerRow_40 ?_
        refine e_lald (pc := 41) dX4_isHungerRow_41 (fun x11 => ?_)
        refine e_aload_n (pc := 42) dX4_isHungerRow_42 rfl rfl ?_
        refine e_getR (pc := 43) dX4_isHungerRow_43 hs_X4_19 (fun r12 => ?_)
        refine e_iload_n (pc := 46) dX4_isHungerRow_46 rfl rfl ?_
        refine e_iald (pc := 47) dX4_isHungerRow_47 (fun x13 => ?_)
        refine e_i2l (pc := 48) dX4_isHungerRow_48 ?_
        refine e_lcmp (pc := 49) dX4_isHungerRow_49 ?_
        refine e_if_ne (pc := 50) (tgt := 57) dX4_isHungerRow_50 (by decide) (fun _ => ?_) (fun _ => ?_)
        · refine e_iconst (pc := 57) dX4_isHungerRow_57 kc_0 ?_
          refine e_istore_n (L' := [some (.ref a0), some (.int a1), some (.int a2), some (.int (0 : Int32)), some (.int b4)]) (pc := 58) dX4_isHungerRow_58 rfl (by decide) rfl ?_
          refine e_aload_n (pc := 59) dX4_isHungerRow_59 rfl rfl ?_
          refine e_callV (pc := 60) (av := []) (S := []) (c0 := 3) rfl rfl ok_X4_dayOn ⟨Nat.le_of_ble_eq_true rfl, Nat.le_of_ble_eq_true rfl⟩ hv_X4_149 dX4_isHungerRow_60 (s_X4_dayOn a0 w7) rfl rfl (Nat.le_of_ble_eq_true rfl) (fun _ w14 => ?_)
          refine e_iinc (L' := [some (.ref a0), some (.int a1), some (.int a2), some (.int (0 : Int32)), some (.int (b4 + 1))]) (pc := 63) (v := 1) dX4_isHungerRow_63 (by decide) rfl kc_1 rfl ?_
          refine e_goto (pc := 66) (tgt := 5) dX4_isHungerRow_66 (by decide) ?_
          exact hk5 (0 : Int32) (b4 + 1) w14
        · refine e_iconst (pc := 53) dX4_isHungerRow_53 kc_1 ?_
          refine e_goto (pc := 54) (tgt := 58) dX4_isHungerRow_54 (by decide) ?_
          refine e_istore_n (L' := [some (.ref a0), some (.int a1), some (.int a2), some (.int (1 : Int32)), some (.int b4)]) (pc := 58) dX4_isHungerRow_58 rfl (by decide) rfl ?_
          refine e_aload_n (pc := 59) dX4_isHungerRow_59 rfl rfl ?_
          refine e_callV (pc := 60) (av := []) (S := []) (c0 := 3) rfl rfl ok_X4_dayOn ⟨Nat.le_of_ble_eq_true rfl, Nat.le_of_ble_eq_true rfl⟩ hv_X4_149 dX4_isHungerRow_60 (s_X4_dayOn a0 w7) rfl rfl (Nat.le_of_ble_eq_true rfl) (fun _ w15 => ?_)
          refine e_iinc (L' := [some (.ref a0), some (.int a1), some (.int a2), some (.int (1 : Int32)), some (.int (b4 + 1))]) (pc := 63) (v := 1) dX4_isHungerRow_63 (by decide) rfl kc_1 rfl ?_
          refine e_goto (pc := 66) (tgt := 5) dX4_isHungerRow_66 (by decide) ?_
          exact hk5 (1 : Int32) (b4 + 1) w15
def f_X4_isHungerRow (a0 : Nat) (a1 : Int32) (a2 : Int32) (w : aW) : Option (Int32 × aW) :=
  loop3 (c_X4_isHungerRow_5 a0 a1 a2) a_fuel (1 : Int32) (0 : Int32) w
theorem s_X4_isHungerRow (a0 : Nat) (a1 : Int32) (a2 : Int32) (w : aW) : Sp rvI M_X4_isHungerRow [.ref a0, .int a1, .int a2] w (f_X4_isHungerRow a0 a1 a2 w) := by
  refine e_entry [some (.ref a0), some (.int a1), some (.int a2), none, none] (by decide +kernel) (Nat.le_of_ble_eq_true rfl) (fun _ => rfl) ?_
  unfold f_X4_isHungerRow
  refine e_iconst (pc := 0) dX4_isHungerRow_0 kc_1 ?_
  refine e_istore_n (L' := [some (.ref a0), some (.int a1), some (.int a2), some (.int (1 : Int32)), none]) (pc := 1) dX4_isHungerRow_1 rfl (by decide) rfl ?_
  refine e_iconst (pc := 2) dX4_isHungerRow_2 kc_0 ?_
  refine e_istore (L' := [some (.ref a0), some (.int a1), some (.int a2), some (.int (1 : Int32)), some (.int (0 : Int32))]) (pc := 3) dX4_isHungerRow_3 (by decide) rfl ?_
  exact e_loop3 (L := fun b3 b4 => [some (.ref a0), some (.int a1), some (.int a2), some (.int b3), some (.int b4)]) (S := fun b3 b4 => []) (fun kf hkf => t_X4_isHungerRow_5 a0 a1 a2  kf hkf) _ (1 : Int32) (0 : Int32) w
