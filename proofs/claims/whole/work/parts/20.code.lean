/-! the decompiled methods: each f_ is what its bytecode does to a world; each s_ ties it to the machine. Written by program (wip/gen/gen.py). -/
def M_X4_dies : aM := (yX4_dies, cX4_dies, 6, (some .int), 6, 136)
theorem ok_X4_dies : a_okM M_X4_dies 1 := ⟨⟨by decide +kernel, by decide +kernel⟩, by decide +kernel, a_in 1216 (by decide +kernel) rfl, a_in 79 (by decide +kernel) rfl⟩
theorem dX4_dies_0 : decode M_X4_dies.2.1 0 = .ok (.aload_n 0, 1) := by decide +kernel
theorem dX4_dies_1 : decode M_X4_dies.2.1 1 = .ok (.iconst 0, 1) := by decide +kernel
theorem dX4_dies_2 : decode M_X4_dies.2.1 2 = .ok (.putfield 80, 3) := by decide +kernel
theorem dX4_dies_5 : decode M_X4_dies.2.1 5 = .ok (.iload_n 1, 1) := by decide +kernel
theorem dX4_dies_6 : decode M_X4_dies.2.1 6 = .ok (.i2l, 1) := by decide +kernel
theorem dX4_dies_7 : decode M_X4_dies.2.1 7 = .ok (.ldc2_w 276, 3) := by decide +kernel
theorem dX4_dies_10 : decode M_X4_dies.2.1 10 = .ok (.aload_n 0, 1) := by decide +kernel
theorem dX4_dies_11 : decode M_X4_dies.2.1 11 = .ok (.getfield 92, 3) := by decide +kernel
theorem dX4_dies_14 : decode M_X4_dies.2.1 14 = .ok (.iconst 1, 1) := by decide +kernel
theorem dX4_dies_15 : decode M_X4_dies.2.1 15 = .ok (.isub, 1) := by decide +kernel
theorem dX4_dies_16 : decode M_X4_dies.2.1 16 = .ok (.i2l, 1) := by decide +kernel
theorem dX4_dies_17 : decode M_X4_dies.2.1 17 = .ok (.invokestatic 86, 3) := by decide +kernel
theorem dX4_dies_20 : decode M_X4_dies.2.1 20 = .ok (.ifCond .ne 5, 3) := by decide +kernel
theorem dX4_dies_23 : decode M_X4_dies.2.1 23 = .ok (.iconst (-1), 1) := by decide +kernel
theorem dX4_dies_24 : decode M_X4_dies.2.1 24 = .ok (.ireturn, 1) := by decide +kernel
theorem dX4_dies_25 : decode M_X4_dies.2.1 25 = .ok (.iload_n 1, 1) := by decide +kernel
theorem dX4_dies_26 : decode M_X4_dies.2.1 26 = .ok (.ifCond .lt 22, 3) := by decide +kernel
theorem dX4_dies_29 : decode M_X4_dies.2.1 29 = .ok (.aload_n 0, 1) := by decide +kernel
theorem dX4_dies_30 : decode M_X4_dies.2.1 30 = .ok (.iload_n 1, 1) := by decide +kernel
theorem dX4_dies_31 : decode M_X4_dies.2.1 31 = .ok (.invokevirtual 278, 3) := by decide +kernel
theorem dX4_dies_34 : decode M_X4_dies.2.1 34 = .ok (.istore_n 2, 1) := by decide +kernel
theorem dX4_dies_35 : decode M_X4_dies.2.1 35 = .ok (.iload_n 2, 1) := by decide +kernel
theorem dX4_dies_36 : decode M_X4_dies.2.1 36 = .ok (.bipush 61, 2) := by decide +kernel
theorem dX4_dies_38 : decode M_X4_dies.2.1 38 = .ok (.if_icmp .ne 8, 3) := by decide +kernel
theorem dX4_dies_41 : decode M_X4_dies.2.1 41 = .ok (.bipush (-4), 2) := by decide +kernel
theorem dX4_dies_43 : decode M_X4_dies.2.1 43 = .ok (.goto 4, 3) := by decide +kernel
theorem dX4_dies_46 : decode M_X4_dies.2.1 46 = .ok (.iload_n 2, 1) := by decide +kernel
theorem dX4_dies_47 : decode M_X4_dies.2.1 47 = .ok (.ireturn, 1) := by decide +kernel
theorem dX4_dies_48 : decode M_X4_dies.2.1 48 = .ok (.bipush (-4), 2) := by decide +kernel
theorem dX4_dies_50 : decode M_X4_dies.2.1 50 = .ok (.istore_n 2, 1) := by decide +kernel
theorem dX4_dies_51 : decode M_X4_dies.2.1 51 = .ok (.bipush 61, 2) := by decide +kernel
theorem dX4_dies_53 : decode M_X4_dies.2.1 53 = .ok (.istore_n 3, 1) := by decide +kernel
theorem dX4_dies_54 : decode M_X4_dies.2.1 54 = .ok (.iconst 0, 1) := by decide +kernel
theorem dX4_dies_55 : decode M_X4_dies.2.1 55 = .ok (.istore 4, 2) := by decide +kernel
theorem dX4_dies_57 : decode M_X4_dies.2.1 57 = .ok (.iload 4, 2) := by decide +kernel
theorem dX4_dies_59 : decode M_X4_dies.2.1 59 = .ok (.aload_n 0, 1) := by decide +kernel
theorem dX4_dies_60 : decode M_X4_dies.2.1 60 = .ok (.getfield 92, 3) := by decide +kernel
theorem dX4_dies_63 : decode M_X4_dies.2.1 63 = .ok (.if_icmp .ge 60, 3) := by decide +kernel
theorem dX4_dies_66 : decode M_X4_dies.2.1 66 = .ok (.aload_n 0, 1) := by decide +kernel
theorem dX4_dies_67 : decode M_X4_dies.2.1 67 = .ok (.getfield 107, 3) := by decide +kernel
theorem dX4_dies_70 : decode M_X4_dies.2.1 70 = .ok (.iload 4, 2) := by decide +kernel
theorem dX4_dies_72 : decode M_X4_dies.2.1 72 = .ok (.invokestatic 110, 3) := by decide +kernel
theorem dX4_dies_75 : decode M_X4_dies.2.1 75 = .ok (.ifCond .eq 12, 3) := by decide +kernel
theorem dX4_dies_78 : decode M_X4_dies.2.1 78 = .ok (.aload_n 0, 1) := by decide +kernel
theorem dX4_dies_79 : decode M_X4_dies.2.1 79 = .ok (.iload 4, 2) := by decide +kernel
theorem dX4_dies_81 : decode M_X4_dies.2.1 81 = .ok (.invokevirtual 278, 3) := by decide +kernel
theorem dX4_dies_84 : decode M_X4_dies.2.1 84 = .ok (.goto 5, 3) := by decide +kernel
theorem dX4_dies_87 : decode M_X4_dies.2.1 87 = .ok (.bipush 61, 2) := by decide +kernel
theorem dX4_dies_89 : decode M_X4_dies.2.1 89 = .ok (.istore 5, 2) := by decide +kernel
theorem dX4_dies_91 : decode M_X4_dies.2.1 91 = .ok (.iload 5, 2) := by decide +kernel
theorem dX4_dies_93 : decode M_X4_dies.2.1 93 = .ok (.iload_n 3, 1) := by decide +kernel
theorem dX4_dies_94 : decode M_X4_dies.2.1 94 = .ok (.if_icmp .ge 8, 3) := by decide +kernel
theorem dX4_dies_97 : decode M_X4_dies.2.1 97 = .ok (.iload 4, 2) := by decide +kernel
theorem dX4_dies_99 : decode M_X4_dies.2.1 99 = .ok (.goto 4, 3) := by decide +kernel
theorem dX4_dies_102 : decode M_X4_dies.2.1 102 = .ok (.iload_n 2, 1) := by decide +kernel
theorem dX4_dies_103 : decode M_X4_dies.2.1 103 = .ok (.istore_n 2, 1) := by decide +kernel
theorem dX4_dies_104 : decode M_X4_dies.2.1 104 = .ok (.iload 5, 2) := by decide +kernel
theorem dX4_dies_106 : decode M_X4_dies.2.1 106 = .ok (.iload_n 3, 1) := by decide +kernel
theorem dX4_dies_107 : decode M_X4_dies.2.1 107 = .ok (.if_icmp .ge 8, 3) := by decide +kernel
theorem dX4_dies_110 : decode M_X4_dies.2.1 110 = .ok (.iload 5, 2) := by decide +kernel
theorem dX4_dies_112 : decode M_X4_dies.2.1 112 = .ok (.goto 4, 3) := by decide +kernel
theorem dX4_dies_115 : decode M_X4_dies.2.1 115 = .ok (.iload_n 3, 1) := by decide +kernel
theorem dX4_dies_116 : decode M_X4_dies.2.1 116 = .ok (.istore_n 3, 1) := by decide +kernel
theorem dX4_dies_117 : decode M_X4_dies.2.1 117 = .ok (.iinc 4 1, 3) := by decide +kernel
theorem dX4_dies_120 : decode M_X4_dies.2.1 120 = .ok (.goto (-63), 3) := by decide +kernel
theorem dX4_dies_123 : decode M_X4_dies.2.1 123 = .ok (.iload_n 2, 1) := by decide +kernel
theorem dX4_dies_124 : decode M_X4_dies.2.1 124 = .ok (.ireturn, 1) := by decide +kernel
theorem hv_X4_278 : a_okV RX4 M_X4_diesIn 278 := ⟨a_in 1218 (by decide +kernel) rfl, a_in 1220 (by decide +kernel) rfl, a_in 55 (by decide +kernel) rfl⟩
def c_X4_dies_103 (a0 : Nat) (a1 : Int32) (k57 : Int32 → Int32 → Int32 → aW → Option (Int32 × aW)) (b3 : Int32) (b4 : Int32) (b5 : Int32) (s0 : Int32) (w : aW) : Option (Int32 × aW) :=
  if b3 ≤ b5 then
    k57 s0 b3 (b4 + 1) w
  else
    k57 s0 b5 (b4 + 1) w
theorem t_X4_dies_103 (a0 : Nat) (a1 : Int32) (k57 : Int32 → Int32 → Int32 → aW → Option (Int32 × aW)) (hk57 : ∀ (b2 : Int32) (b3 : Int32) (b4 : Int32) (w : aW), Ev rvI M_X4_dies 57 [some (.ref a0), none, some (.int b2), some (.int b3), some (.int b4), none] [] w (k57 b2 b3 b4 w)) (b3 : Int32) (b4 : Int32) (b5 : Int32) (s0 : Int32) (w : aW) : Ev rvI M_X4_dies 103 [some (.ref a0), none, none, some (.int b3), some (.int b4), some (.int b5)] [.int s0] w (c_X4_dies_103 a0 a1 k57 b3 b4 b5 s0 w) := by
  unfold c_X4_dies_103
  refine e_istore_n (L' := [some (.ref a0), none, some (.int s0), some (.int b3), some (.int b4), some (.int b5)]) (pc := 103) dX4_dies_103 rfl (by decide) rfl ?_
  refine e_iload (pc := 104) dX4_dies_104 rfl ?_
  refine e_iload_n (pc := 106) dX4_dies_106 rfl rfl ?_
  refine e_icmp_ge (pc := 107) (tgt := 115) dX4_dies_107 (by decide) (fun _ => ?_) (fun _ => ?_)
  · refine e_iload_n (pc := 115) dX4_dies_115 rfl rfl ?_
    refine e_istore_n (L' := [some (.ref a0), none, some (.int s0), some (.int b3), some (.int b4), some (.int b5)]) (pc := 116) dX4_dies_116 rfl (by decide) rfl ?_
    refine e_iinc (L' := [some (.ref a0), none, some (.int s0), some (.int b3), some (.int (b4 + 1)), some (.int b5)]) (pc := 117) (v := 1) dX4_dies_117 (by decide) rfl kc_1 rfl ?_
    refine e_goto (pc := 120) (tgt := 57) dX4_dies_120 (by decide) ?_
    refine e_forget (L2 := [some (.ref a0), none, some (.int s0), some (.int b3), some (.int (b4 + 1)), none]) (And.intro rfl (And.intro rfl (And.intro rfl (And.intro rfl trivial)))) ?_
    exact hk57 s0 b3 (b4 + 1) w
  · refine e_iload (pc := 110) dX4_dies_110 rfl ?_
    refine e_goto (pc := 112) (tgt := 116) dX4_dies_112 (by decide) ?_
    refine e_istore_n (L' := [some (.ref a0), none, some (.int s0), some (.int b5), some (.int b4), some (.int b5)]) (pc := 116) dX4_dies_116 rfl (by decide) rfl ?_
    refine e_iinc (L' := [some (.ref a0), none, some (.int s0), some (.int b5), some (.int (b4 + 1)), some (.int b5)]) (pc := 117) (v := 1) dX4_dies_117 (by decide) rfl kc_1 rfl ?_
    refine e_goto (pc := 120) (tgt := 57) dX4_dies_120 (by decide) ?_
    refine e_forget (L2 := [some (.ref a0), none, some (.int s0), some (.int b5), some (.int (b4 + 1)), none]) (And.intro rfl (And.intro rfl (And.intro rfl (And.intro rfl trivial)))) ?_
    exact hk57 s0 b5 (b4 + 1) w
def c_X4_dies_57 (a0 : Nat) (a1 : Int32) (k57 : Int32 → Int32 → Int32 → aW → Option (Int32 × aW)) (b2 : Int32) (b3 : Int32) (b4 : Int32) (w : aW) : Option (Int32 × aW) :=
  (gI 3 w a0 0).bind fun x7 =>
  if x7 ≤ b4 then
    some (b2, w)
  else
    (gI 3 w a0 6).bind fun x8 =>
    bk (f_X4_hasBit x8 b4 w) fun x10 w9 =>
    if x10 = (0 : Int32) then
      if b3 ≤ (61 : Int32) then
        c_X4_dies_103 a0 a1 k57 b3 b4 (61 : Int32) b2 w9
      else
        c_X4_dies_103 a0 a1 k57 b3 b4 (61 : Int32) b4 w9
    else
      cV 3 w9 a0 (bk (f_X4_diesIn a0 b4 w9) fun x12 w11 =>
      if b3 ≤ x12 then
        c_X4_dies_103 a0 a1 k57 b3 b4 x12 b2 w11
      else
        c_X4_dies_103 a0 a1 k57 b3 b4 x12 b4 w11)
theorem t_X4_dies_57 (a0 : Nat) (a1 : Int32) (k57 : Int32 → Int32 → Int32 → aW → Option (Int32 × aW)) (hk57 : ∀ (b2 : Int32) (b3 : Int32) (b4 : Int32) (w : aW), Ev rvI M_X4_dies 57 [some (.ref a0), none, some (.int b2), some (.int b3), some (.int b4), none] [] w (k57 b2 b3 b4 w)) (b2 : Int32) (b3 : Int32) (b4 : Int32) (w : aW) : Ev rvI M_X4_dies 57 [some (.ref a0), none, some (.int b2), some (.int b3), some (.int b4), none] [] w (c_X4_dies_57 a0 a1 k57 b2 b3 b4 w) := by
  unfold c_X4_dies_57
  refine e_iload (pc := 57) dX4_dies_57 rfl ?_
  refine e_aload_n (pc := 59) dX4_dies_59 rfl rfl ?_
  refine e_getI (pc := 60) dX4_dies_60 hs_X4_92 (fun x7 => ?_)
  refine e_icmp_ge (pc := 63) (tgt := 123) dX4_dies_63 (by decide) (fun _ => ?_) (fun _ => ?_)
  · refine e_iload_n (pc := 123) dX4_dies_123 rfl rfl ?_
    exact e_iret (pc := 124) dX4_dies_124 rfl rfl
  · refine e_aload_n (pc := 66) dX4_dies_66 rfl rfl ?_
    refine e_getI (pc := 67) dX4_dies_67 hs_X4_107 (fun x8 => ?_)
    refine e_iload (pc := 70) dX4_dies_70 rfl ?_
    refine e_callS (pc := 72) (av := [.int x8, .int b4]) (S := []) ok_X4_hasBit ⟨Nat.le_of_ble_eq_true rfl, Nat.le_of_ble_eq_true rfl⟩ ht_X4_110 dX4_dies_72 (s_X4_hasBit x8 b4 w) rfl rfl (Nat.le_of_ble_eq_true rfl) (fun x10 w9 => ?_)
    refine e_if_eq (pc := 75) (tgt := 87) dX4_dies_75 (by decide) (fun _ => ?_) (fun _ => ?_)
    · refine e_bipush (pc := 87) dX4_dies_87 kb_61 ?_
      refine e_istore (L' := [some (.ref a0), none, some (.int b2), some (.int b3), some (.int b4), some (.int (61 : Int32))]) (pc := 89) dX4_dies_89 (by decide) rfl ?_
      refine e_iload (pc := 91) dX4_dies_91 rfl ?_
      refine e_iload_n (pc := 93) dX4_dies_93 rfl rfl ?_
      refine e_icmp_ge (pc := 94) (tgt := 102) dX4_dies_94 (by decide) (fun _ => ?_) (fun _ => ?_)
      · refine e_iload_n (pc := 102) dX4_dies_102 rfl rfl ?_
        refine e_forget (L2 := [some (.ref a0), none, none, some (.int b3), some (.int b4), some (.int (61 : Int32))]) (And.intro rfl (And.intro rfl (And.intro rfl (And.intro rfl trivial)))) ?_
        exact t_X4_dies_103 a0 a1 k57 hk57 b3 b4 (61 : Int32) b2 w9
      · refine e_iload (pc := 97) dX4_dies_97 rfl ?_
        refine e_goto (pc := 99) (tgt := 103) dX4_dies_99 (by decide) ?_
        refine e_forget (L2 := [some (.ref a0), none, none, some (.int b3), some (.int b4), some (.int (61 : Int32))]) (And.intro rfl (And.intro rfl (And.intro rfl (And.intro rfl trivial)))) ?_
        exact t_X4_dies_103 a0 a1 k57 hk57 b3 b4 (61 : Int32) b4 w9
    · refine e_aload_n (pc := 78) dX4_dies_78 rfl rfl ?_
      refine e_iload (pc := 79) dX4_dies_79 rfl ?_
      refine e_callV (pc := 81) (av := [.int b4]) (S := []) (c0 := 3) rfl rfl ok_X4_diesIn ⟨Nat.le_of_ble_eq_true rfl, Nat.le_of_ble_eq_true rfl⟩ hv_X4_278 dX4_dies_81 (s_X4_diesIn a0 b4 w9) rfl rfl (Nat.le_of_ble_eq_true rfl) (fun x12 w11 => ?_)
      refine e_goto (pc := 84) (tgt := 89) dX4_dies_84 (by decide) ?_
      refine e_istore (L' := [some (.ref a0), none, some (.int b2), some (.int b3), some (.int b4), some (.int x12)]) (pc := 89) dX4_dies_89 (by decide) rfl ?_
      refine e_iload (pc := 91) dX4_dies_91 rfl ?_
      refine e_iload_n (pc := 93) dX4_dies_93 rfl rfl ?_
      refine e_icmp_ge (pc := 94) (tgt := 102) dX4_dies_94 (by decide) (fun _ => ?_) (fun _ => ?_)
      · refine e_iload_n (pc := 102) dX4_dies_102 rfl rfl ?_
        refine e_forget (L2 := [some (.ref a0), none, none, some (.int b3), some (.int b4), some (.int x12)]) (And.intro rfl (And.intro rfl (And.intro rfl (And.intro rfl trivial)))) ?_
        exact t_X4_dies_103 a0 a1 k57 hk57 b3 b4 x12 b2 w11
      · refine e_iload (pc := 97) dX4_dies_97 rfl ?_
        refine e_goto (pc := 99) (tgt := 103) dX4_dies_99 (by decide) ?_
        refine e_forget (L2 := [some (.ref a0), none, none, some (.int b3), some (.int b4), some (.int x12)]) (And.intro rfl (And.intro rfl (And.intro rfl (And.intro rfl trivial)))) ?_
        exact t_X4_dies_103 a0 a1 k57 hk57 b3 b4 x12 b4 w11
def f_X4_dies (a0 : Nat) (a1 : Int32) (w : aW) : Option (Int32 × aW) :=
  (sF 3 w a0 19 (.int (0 : Int32))).bind fun w1 =>
  (gI 3 w1 a0 0).bind fun x2 =>
  bk (f_X4_in a1.toInt64 (-1 : Int64) ((x2 - (1 : Int32)).toInt64) w1) fun x4 w3 =>
  if ¬ x4 = (0 : Int32) then
    if a1 < (0 : Int32) then
      loop4 (c_X4_dies_57 a0 a1) a_fuel (-4 : Int32) (61 : Int32) (0 : Int32) w3
    else
      cV 3 w3 a0 (bk (f_X4_diesIn a0 a1 w3) fun x6 w5 =>
      if ¬ x6 = (61 : Int32) then
        some (x6, w5)
      else
        some ((-4 : Int32), w5))
  else
    some ((-1 : Int32), w3)
theorem s_X4_dies (a0 : Nat) (a1 : Int32) (w : aW) : Sp rvI M_X4_dies [.ref a0, .int a1] w (f_X4_dies a0 a1 w) := by
  refine e_entry [some (.ref a0), some (.int a1), none, none, none, none] (by decide +kernel) (Nat.le_of_ble_eq_true rfl) (fun _ => rfl) ?_
  unfold f_X4_dies
  refine e_aload_n (pc := 0) dX4_dies_0 rfl rfl ?_
  refine e_iconst (pc := 1) dX4_dies_1 kc_0 ?_
  refine e_put (pc := 2) dX4_dies_2 hw_X4_80 (fun _ => rfl) (fun _ => rfl) (fun w1 => ?_)
  refine e_iload_n (pc := 5) dX4_dies_5 rfl rfl ?_
  refine e_i2l (pc := 6) dX4_dies_6 ?_
  refine e_ldc2 (pc := 7) (v := -1) dX4_dies_7 (a_in 1217 (by decide +kernel) rfl) ?_
  refine e_aload_n (pc := 10) dX4_dies_10 rfl rfl ?_
  refine e_getI (pc := 11) dX4_dies_11 hs_X4_92 (fun x2 => ?_)
  refine e_iconst (pc := 14) dX4_dies_14 kc_1 ?_
  refine e_isub (pc := 15) dX4_dies_15 ?_
  refine e_i2l (pc := 16) dX4_dies_16 ?_
  refine e_callS (pc := 17) (av := [.long a1.toInt64, .long (-1 : Int64), .long ((x2 - (1 : Int32)).toInt64)]) (S := []) ok_X4_in ⟨Nat.le_of_ble_eq_true rfl, Nat.le_of_ble_eq_true rfl⟩ ht_X4_86 dX4_dies_17 (s_X4_in a1.toInt64 (-1 : Int64) ((x2 - (1 : Int32)).toInt64) w1) rfl rfl (Nat.le_of_ble_eq_true rfl) (fun x4 w3 => ?_)
  refine e_if_ne (pc := 20) (tgt := 25) dX4_dies_20 (by decide) (fun _ => ?_) (fun _ => ?_)
  · refine e_iload_n (pc := 25) dX4_dies_25 rfl rfl ?_
    refine e_if_lt (pc := 26) (tgt := 48) dX4_dies_26 (by decide) (fun _ => ?_) (fun _ => ?_)
    · refine e_bipush (pc := 48) dX4_dies_48 kb_m4 ?_
      refine e_istore_n (L' := [some (.ref a0), some (.int a1), some (.int (-4 : Int32)), none, none, none]) (pc := 50) dX4_dies_50 rfl (by decide) rfl ?_
      refine e_bipush (pc := 51) dX4_dies_51 kb_61 ?_
      refine e_istore_n (L' := [some (.ref a0), some (.int a1), some (.int (-4 : Int32)), some (.int (61 : Int32)), none, none]) (pc := 53) dX4_dies_53 rfl (by decide) rfl ?_
      refine e_iconst (pc := 54) dX4_dies_54 kc_0 ?_
      refine e_istore (L' := [some (.ref a0), some (.int a1), some (.int (-4 : Int32)), some (.int (61 : Int32)), some (.int (0 : Int32)), none]) (pc := 55) dX4_dies_55 (by decide) rfl ?_
      refine e_forget (L2 := [some (.ref a0), none, some (.int (-4 : Int32)), some (.int (61 : Int32)), some (.int (0 : Int32)), none]) (And.intro rfl (And.intro rfl (And.intro rfl (And.intro rfl trivial)))) ?_
      exact e_loop4 (L := fun b2 b3 b4 => [some (.ref a0), none, some (.int b2), some (.int b3), some (.int b4), none]) (S := fun b2 b3 b4 => []) (fun kf hkf => t_X4_dies_57 a0 a1  kf hkf) _ (-4 : Int32) (61 : Int32) (0 : Int32) w3
    · refine e_aload_n (pc := 29) dX4_dies_29 rfl rfl ?_
      refine e_iload_n (pc := 30) dX4_dies_30 rfl rfl ?_
      refine e_callV (pc := 31) (av := [.int a1]) (S := []) (c0 := 3) rfl rfl ok_X4_diesIn ⟨Nat.le_of_ble_eq_true rfl, Nat.le_of_ble_eq_true rfl⟩ hv_X4_278 dX4_dies_31 (s_X4_diesIn a0 a1 w3) rfl rfl (Nat.le_of_ble_eq_true rfl) (fun x6 w5 => ?_)
      refine e_istore_n (L' := [some (.ref a0), some (.int a1), some (.int x6), none, none, none]) (pc := 34) dX4_dies_34 rfl (by decide) rfl ?_
      refine e_iload_n (pc := 35) dX4_dies_35 rfl rfl ?_
      refine e_bipush (pc := 36) dX4_dies_36 kb_61 ?_
      refine e_icmp_ne (pc := 38) (tgt := 46) dX4_dies_38 (by decide) (fun _ => ?_) (fun _ => ?_)
      · refine e_iload_n (pc := 46) dX4_dies_46 rfl rfl ?_
        exact e_iret (pc := 47) dX4_dies_47 rfl rfl
      · refine e_bipush (pc := 41) dX4_dies_41 kb_m4 ?_
        refine e_goto (pc := 43) (tgt := 47) dX4_dies_43 (by decide) ?_
        exact e_iret (pc := 47) dX4_dies_47 rfl rfl
  · refine e_iconst (pc := 23) dX4_dies_23 kc_m1 ?_
    exact e_iret (pc := 24) dX4_dies_24 rfl rfl
def M_X4_ruined : aM := (yX4_ruined, cX4_ruined, 4, (some .int), 5, 113)
theorem ok_X4_ruined : a_okM M_X4_ruined 1 := ⟨⟨by decide +kernel, by decide +kernel⟩, by decide +kernel, a_in 1225 (by decide +kernel) rfl, a_in 79 (by decide +kernel) rfl⟩
theorem dX4_ruined_0 : decode M_X4_ruined.2.1 0 = .ok (.aload_n 0, 1) := by decide +kernel
theorem dX4_ruined_1 : decode M_X4_ruined.2.1 1 = .ok (.iconst 0, 1) := by decide +kernel
theorem dX4_ruined_2 : decode M_X4_ruined.2.1 2 = .ok (.putfield 80, 3) := by decide +kernel
theorem dX4_ruined_5 : decode M_X4_ruined.2.1 5 = .ok (.iload_n 1, 1) := by decide +kernel
theorem dX4_ruined_6 : decode M_X4_ruined.2.1 6 = .ok (.invokestatic 188, 3) := by decide +kernel
theorem dX4_ruined_9 : decode M_X4_ruined.2.1 9 = .ok (.ifCond .ne 5, 3) := by decide +kernel
theorem dX4_ruined_12 : decode M_X4_ruined.2.1 12 = .ok (.iconst (-1), 1) := by decide +kernel
theorem dX4_ruined_13 : decode M_X4_ruined.2.1 13 = .ok (.ireturn, 1) := by decide +kernel
theorem dX4_ruined_14 : decode M_X4_ruined.2.1 14 = .ok (.bipush (-4), 2) := by decide +kernel
theorem dX4_ruined_16 : decode M_X4_ruined.2.1 16 = .ok (.istore_n 2, 1) := by decide +kernel
theorem dX4_ruined_17 : decode M_X4_ruined.2.1 17 = .ok (.aload_n 0, 1) := by decide +kernel
theorem dX4_ruined_18 : decode M_X4_ruined.2.1 18 = .ok (.invokevirtual 221, 3) := by decide +kernel
theorem dX4_ruined_21 : decode M_X4_ruined.2.1 21 = .ok (.iconst 0, 1) := by decide +kernel
theorem dX4_ruined_22 : decode M_X4_ruined.2.1 22 = .ok (.istore_n 3, 1) := by decide +kernel
theorem dX4_ruined_23 : decode M_X4_ruined.2.1 23 = .ok (.iload_n 3, 1) := by decide +kernel
theorem dX4_ruined_24 : decode M_X4_ruined.2.1 24 = .ok (.bipush 60, 2) := by decide +kernel
theorem dX4_ruined_26 : decode M_X4_ruined.2.1 26 = .ok (.if_icmp .gt 38, 3) := by decide +kernel
theorem dX4_ruined_29 : decode M_X4_ruined.2.1 29 = .ok (.iload_n 2, 1) := by decide +kernel
theorem dX4_ruined_30 : decode M_X4_ruined.2.1 30 = .ok (.ifCond .ge 34, 3) := by decide +kernel
theorem dX4_ruined_33 : decode M_X4_ruined.2.1 33 = .ok (.aload_n 0, 1) := by decide +kernel
theorem dX4_ruined_34 : decode M_X4_ruined.2.1 34 = .ok (.getfield 25, 3) := by decide +kernel
theorem dX4_ruined_37 : decode M_X4_ruined.2.1 37 = .ok (.iload_n 1, 1) := by decide +kernel
theorem dX4_ruined_38 : decode M_X4_ruined.2.1 38 = .ok (.iaload, 1) := by decide +kernel
theorem dX4_ruined_39 : decode M_X4_ruined.2.1 39 = .ok (.aload_n 0, 1) := by decide +kernel
theorem dX4_ruined_40 : decode M_X4_ruined.2.1 40 = .ok (.iload_n 1, 1) := by decide +kernel
theorem dX4_ruined_41 : decode M_X4_ruined.2.1 41 = .ok (.invokevirtual 256, 3) := by decide +kernel
theorem dX4_ruined_44 : decode M_X4_ruined.2.1 44 = .ok (.if_icmp .ge 7, 3) := by decide +kernel
theorem dX4_ruined_47 : decode M_X4_ruined.2.1 47 = .ok (.iload_n 3, 1) := by decide +kernel
theorem dX4_ruined_48 : decode M_X4_ruined.2.1 48 = .ok (.goto 5, 3) := by decide +kernel
theorem dX4_ruined_51 : decode M_X4_ruined.2.1 51 = .ok (.bipush (-4), 2) := by decide +kernel
theorem dX4_ruined_53 : decode M_X4_ruined.2.1 53 = .ok (.istore_n 2, 1) := by decide +kernel
theorem dX4_ruined_54 : decode M_X4_ruined.2.1 54 = .ok (.aload_n 0, 1) := by decide +kernel
theorem dX4_ruined_55 : decode M_X4_ruined.2.1 55 = .ok (.invokevirtual 149, 3) := by decide +kernel
theorem dX4_ruined_58 : decode M_X4_ruined.2.1 58 = .ok (.iinc 3 1, 3) := by decide +kernel
theorem dX4_ruined_61 : decode M_X4_ruined.2.1 61 = .ok (.goto (-38), 3) := by decide +kernel
theorem dX4_ruined_64 : decode M_X4_ruined.2.1 64 = .ok (.aload_n 0, 1) := by decide +kernel
theorem dX4_ruined_65 : decode M_X4_ruined.2.1 65 = .ok (.invokevirtual 227, 3) := by decide +kernel
theorem dX4_ruined_68 : decode M_X4_ruined.2.1 68 = .ok (.iload_n 2, 1) := by decide +kernel
theorem dX4_ruined_69 : decode M_X4_ruined.2.1 69 = .ok (.ireturn, 1) := by decide +kernel
def c_X4_ruined_23 (a0 : Nat) (a1 : Int32) (k23 : Int32 → Int32 → aW → Option (Int32 × aW)) (b2 : Int32) (b3 : Int32) (w : aW) : Option (Int32 × aW) :=
  if (60 : Int32) < b3 then
    cV 3 w a0 (bk (f_X4_again a0 w) fun _ w5 =>
    some (b2, w5))
  else
    if (0 : Int32) ≤ b2 then
      cV 3 w a0 (bk (f_X4_again a0 w) fun _ w6 =>
      some (b2, w6))
    else
      (gR 3 w a0 7).bind fun r7 =>
      (gA w r7 a1).bind fun x8 =>
      cV 3 w a0 (bk (f_X4_needBy a0 a1 w) fun x10 w9 =>
      if x10 ≤ x8 then
        cV 3 w9 a0 (bk (f_X4_dayOn a0 w9) fun _ w11 =>
        k23 (-4 : Int32) (b3 + 1) w11)
      else
        cV 3 w9 a0 (bk (f_X4_dayOn a0 w9) fun _ w12 =>
        k23 b3 (b3 + 1) w12))
theorem t_X4_ruined_23 (a0 : Nat) (a1 : Int32) (k23 : Int32 → Int32 → aW → Option (Int32 × aW)) (hk23 : ∀ (b2 : Int32) (b3 : Int32) (w : aW), Ev rvI M_X4_ruined 23 [some (.ref a0), some (.int a1), some (.int b2), some (.int b3)] [] w (k23 b2 b3 w)) (b2 : Int32) (b3 : Int32) (w : aW) : Ev rvI M_X4_ruined 23 [some (.ref a0), some (.int a1), some (.int b2), some (.int b3)] [] w (c_X4_ruined_23 a0 a1 k23 b2 b3 w) := by
  unfold c_X4_ruined_23
  refine e_iload_n (pc := 23) dX4_ruined_23 rfl rfl ?_
  refine e_bipush (pc := 24) dX4_ruined_24 kb_60 ?_
  refine e_icmp_gt (pc := 26) (tgt := 64) dX4_ruined_26 (by decide) (fun _ => ?_) (fun _ => ?_)
  · refine e_aload_n (pc := 64) dX4_ruined_64 rfl rfl ?_
    refine e_callV (pc := 65) (av := []) (S := []) (c0 := 3) rfl rfl ok_X4_again ⟨Nat.le_of_ble_eq_true rfl, Nat.le_of_ble_eq_true rfl⟩ hv_X4_227 dX4_ruined_65 (s_X4_again a0 w) rfl rfl (Nat.le_of_ble_eq_true rfl) (fun _ w5 => ?_)
    refine e_iload_n (pc := 68) dX4_ruined_68 rfl rfl ?_
    exact e_iret (pc := 69) dX4_ruined_69 rfl rfl
  · refine e_iload_n (pc := 29) dX4_ruined_29 rfl rfl ?_
    refine e_if_ge (pc := 30) (tgt := 64) dX4_ruined_30 (by decide) (fun _ => ?_) (fun _ => ?_)
    · refine e_aload_n (pc := 64) dX4_ruined_64 rfl rfl ?_
      refine e_callV (pc := 65) (av := []) (S := []) (c0 := 3) rfl rfl ok_X4_again ⟨Nat.le_of_ble_eq_true rfl, Nat.le_of_ble_eq_true rfl⟩ hv_X4_227 dX4_ruined_65 (s_X4_again a0 w) rfl rfl (Nat.le_of_ble_eq_true rfl) (fun _ w6 => ?_)
      refine e_iload_n (pc := 68) dX4_ruined_68 rfl rfl ?_
      exact e_iret (pc := 69) dX4_ruined_69 rfl rfl
    · refine e_aload_n (pc := 33) dX4_ruined_33 rfl rfl ?_
      refine e_getR (pc := 34) dX4_ruined_34 hs_X4_25 (fun r7 => ?_)
      refine e_iload_n (pc := 37) dX4_ruined_37 rfl rfl ?_
      refine e_iald (pc := 38) dX4_ruined_38 (fun x8 => ?_)
      refine e_aload_n (pc := 39) dX4_ruined_39 rfl rfl ?_
      refine e_iload_n (pc := 40) dX4_ruined_40 rfl rfl ?_
      refine e_callV (pc := 41) (av := [.int a1]) (S := [.int x8]) (c0 := 3) rfl rfl ok_X4_needBy ⟨Nat.le_of_ble_eq_true rfl, Nat.le_of_ble_eq_true rfl⟩ hv_X4_256 dX4_ruined_41 (s_X4_needBy a0 a1 w) rfl rfl (Nat.le_of_ble_eq_true rfl) (fun x10 w9 => ?_)
      refine e_icmp_ge (pc := 44) (tgt := 51) dX4_ruined_44 (by decide) (fun _ => ?_) (fun _ => ?_)
      · refine e_bipush (pc := 51) dX4_ruined_51 kb_m4 ?_
        refine e_istore_n (L' := [some (.ref a0), some (.int a1), some (.int (-4 : Int32)), some (.int b3)]) (pc := 53) dX4_ruined_53 rfl (by decide) rfl ?_
        refine e_aload_n (pc := 54) dX4_ruined_54 rfl rfl ?_
        refine e_callV (pc := 55) (av := []) (S := []) (c0 := 3) rfl rfl ok_X4_dayOn ⟨Nat.le_of_ble_eq_true rfl, Nat.le_of_ble_eq_true rfl⟩ hv_X4_149 dX4_ruined_55 (s_X4_dayOn a0 w9) rfl rfl (Nat.le_of_ble_eq_true rfl) (fun _ w11 => ?_)
        refine e_iinc (L' := [some (.ref a0), some (.int a1), some (.int (-4 : Int32)), some (.int (b3 + 1))]) (pc := 58) (v := 1) dX4_ruined_58 (by decide) rfl kc_1 rfl ?_
        refine e_goto (pc := 61) (tgt := 23) dX4_ruined_61 (by decide) ?_
        exact hk23 (-4 : Int32) (b3 + 1) w11
      · refine e_iload_n (pc := 47) dX4_ruined_47 rfl rfl ?_
        refine e_goto (pc := 48) (tgt := 53) dX4_ruined_48 (by decide) ?_
        refine e_istore_n (L' := [some (.ref a0), some (.int a1), some (.int b3), some (.int b3)]) (pc := 53) dX4_ruined_53 rfl (by decide) rfl ?_
        refine e_aload_n (pc := 54) dX4_ruined_54 rfl rfl ?_
        refine e_callV (pc := 55) (av := []) (S := []) (c0 := 3) rfl rfl ok_X4_dayOn ⟨Nat.le_of_ble_eq_true rfl, Nat.le_of_ble_eq_true rfl⟩ hv_X4_149 dX4_ruined_55 (s_X4_dayOn a0 w9) rfl rfl (Nat.le_of_ble_eq_true rfl) (fun _ w12 => ?_)
        refine e_iinc (L' := [some (.ref a0), some (.int a1), some (.int b3), some (.int (b3 + 1))]) (pc := 58) (v := 1) dX4_ruined_58 (by decide) rfl kc_1 rfl ?_
        refine e_goto (pc := 61) (tgt := 23) dX4_ruined_61 (by decide) ?_
        exact hk23 b3 (b3 + 1) w12
def f_X4_ruined (a0 : Nat) (a1 : Int32) (w : aW) : Option (Int32 × aW) :=
  (sF 3 w a0 19 (.int (0 : Int32))).bind fun w1 =>
  bk (f_X4_isPerson a1 w1) fun x3 w2 =>
  if ¬ x3 = (0 : Int32) then
    cV 3 w2 a0 (bk (f_X4_think a0 w2) fun _ w4 =>
    loop3 (c_X4_ruined_23 a0 a1) a_fuel (-4 : Int32) (0 : Int32) w4)
  else
    some ((-1 : Int32), w2)
theorem s_X4_ruined (a0 : Nat) (a1 : Int32) (w : aW) : Sp rvI M_X4_ruined [.ref a0, .int a1] w (f_X4_ruined a0 a1 w) := by
  refine e_entry [some (.ref a0), some (.int a1), none, none] (by decide +kernel) (Nat.le_of_ble_eq_true rfl) (fun _ => rfl) ?_
  unfold f_X4_ruined
  refine e_aload_n (pc := 0) dX4_ruined_0 rfl rfl ?_
  refine e_iconst (pc := 1) dX4_ruined_1 kc_0 ?_
  refine e_put (pc := 2) dX4_ruined_2 hw_X4_80 (fun _ => rfl) (fun _ => rfl) (fun w1 => ?_)
  refine e_iload_n (pc := 5) dX4_ruined_5 rfl rfl ?_
  refine e_callS (pc := 6) (av := [.int a1]) (S := []) ok_X4_isPerson ⟨Nat.le_of_ble_eq_true rfl, Nat.le_of_ble_eq_true rfl⟩ ht_X4_188 dX4_ruined_6 (s_X4_isPerson a1 w1) rfl rfl (Nat.le_of_ble_eq_true rfl) (fun x3 w2 => ?_)
  refine e_if_ne (pc := 9) (tgt := 14) dX4_ruined_9 (by decide) (fun _ => ?_) (fun _ => ?_)
  · refine e_bipush (pc := 14) dX4_ruined_14 kb_m4 ?_
    refine e_istore_n (L' := [some (.ref a0), some (.int a1), some (.int (-4 : Int32)), none]) (pc := 16) dX4_ruined_16 rfl (by decide) rfl ?_
    refine e_aload_n (pc := 17) dX4_ruined_17 rfl rfl ?_
    refine e_callV (pc := 18) (av := []) (S := []) (c0 := 3) rfl rfl ok_X4_think ⟨Nat.le_of_ble_eq_true rfl, Nat.le_of_ble_eq_true rfl⟩ hv_X4_221 dX4_ruined_18 (s_X4_think a0 w2) rfl rfl (Nat.le_of_ble_eq_true rfl) (fun _ w4 => ?_)
    refine e_iconst (pc := 21) dX4_ruined_21 kc_0 ?_
    refine e_istore_n (L' := [some (.ref a0), some (.int a1), some (.int (-4 : Int32)), some (.int (0 : Int32))]) (pc := 22) dX4_ruined_22 rfl (by decide) rfl ?_
    exact e_loop3 (L := fun b2 b3 => [some (.ref a0), some (.int a1), some (.int b2), some (.int b3)]) (S := fun b2 b3 => []) (fun kf hkf => t_X4_ruined_23 a0 a1  kf hkf) _ (-4 : Int32) (0 : Int32) w4
  · refine e_iconst (pc := 12) dX4_ruined_12 kc_m1 ?_
    exact e_iret (pc := 13) dX4_ruined_13 rfl rfl
def M_X4_isMoved : aM := (yX4_isMoved, cX4_isMoved, 3, (some .boolean), 0, 0)
theorem ok_X4_isMoved : a_okM M_X4_isMoved 0 := ⟨⟨by decide +kernel, by decide +kernel⟩, by decide +kernel, a_in 1237 (by decide +kernel) rfl, a_in 79 (by decide +kernel) rfl⟩
theorem dX4_isMoved_0 : decode M_X4_isMoved.2.1 0 = .ok (.iconst 0, 1) := by decide +kernel
theorem dX4_isMoved_1 : decode M_X4_isMoved.2.1 1 = .ok (.istore_n 1, 1) := by decide +kernel
theorem dX4_isMoved_2 : decode M_X4_isMoved.2.1 2 = .ok (.iconst 0, 1) := by decide +kernel
theorem dX4_isMoved_3 : decode M_X4_isMoved.2.1 3 = .ok (.istore_n 2, 1) := by decide +kernel
theorem dX4_isMoved_4 : decode M_X4_isMoved.2.1 4 = .ok (.iload_n 2, 1) := by decide +kernel
theorem dX4_isMoved_5 : decode M_X4_isMoved.2.1 5 = .ok (.aload_n 0, 1) := by decide +kernel
theorem dX4_isMoved_6 : decode M_X4_isMoved.2.1 6 = .ok (.getfield 92, 3) := by decide +kernel
theorem dX4_isMoved_9 : decode M_X4_isMoved.2.1 9 = .ok (.if_icmp .ge 34, 3) := by decide +kernel
theorem dX4_isMoved_12 : decode M_X4_isMoved.2.1 12 = .ok (.iload_n 1, 1) := by decide +kernel
theorem dX4_isMoved_13 : decode M_X4_isMoved.2.1 13 = .ok (.ifCond .ne 18, 3) := by decide +kernel
theorem dX4_isMoved_16 : decode M_X4_isMoved.2.1 16 = .ok (.aload_n 0, 1) := by decide +kernel
theorem dX4_isMoved_17 : decode M_X4_isMoved.2.1 17 = .ok (.getfield 71, 3) := by decide +kernel
theorem dX4_isMoved_20 : decode M_X4_isMoved.2.1 20 = .ok (.iload_n 2, 1) := by decide +kernel
theorem dX4_isMoved_21 : decode M_X4_isMoved.2.1 21 = .ok (.iaload, 1) := by decide +kernel
theorem dX4_isMoved_22 : decode M_X4_isMoved.2.1 22 = .ok (.aload_n 0, 1) := by decide +kernel
theorem dX4_isMoved_23 : decode M_X4_isMoved.2.1 23 = .ok (.getfield 16, 3) := by decide +kernel
theorem dX4_isMoved_26 : decode M_X4_isMoved.2.1 26 = .ok (.iload_n 2, 1) := by decide +kernel
theorem dX4_isMoved_27 : decode M_X4_isMoved.2.1 27 = .ok (.iaload, 1) := by decide +kernel
theorem dX4_isMoved_28 : decode M_X4_isMoved.2.1 28 = .ok (.if_icmp .eq 7, 3) := by decide +kernel
theorem dX4_isMoved_31 : decode M_X4_isMoved.2.1 31 = .ok (.iconst 1, 1) := by decide +kernel
theorem dX4_isMoved_32 : decode M_X4_isMoved.2.1 32 = .ok (.goto 4, 3) := by decide +kernel
theorem dX4_isMoved_35 : decode M_X4_isMoved.2.1 35 = .ok (.iconst 0, 1) := by decide +kernel
theorem dX4_isMoved_36 : decode M_X4_isMoved.2.1 36 = .ok (.istore_n 1, 1) := by decide +kernel
theorem dX4_isMoved_37 : decode M_X4_isMoved.2.1 37 = .ok (.iinc 2 1, 3) := by decide +kernel
theorem dX4_isMoved_40 : decode M_X4_isMoved.2.1 40 = .ok (.goto (-36), 3) := by decide +kernel
theorem dX4_isMoved_43 : decode M_X4_isMoved.2.1 43 = .ok (.iload_n 1, 1) := by decide +kernel
theorem dX4_isMoved_44 : decode M_X4_isMoved.2.1 44 = .ok (.ireturn, 1) := by decide +kernel
theorem hs_X4_71 : a_fs RX4 71 3 33 := ⟨RX4, TX4, 37, rfl, tin_X4, by decide, a_in 898 (by decide +kernel) rfl⟩
def c_X4_isMoved_4 (a0 : Nat) (k4 : Int32 → Int32 → aW → Option (Int32 × aW)) (b1 : Int32) (b2 : Int32) (w : aW) : Option (Int32 × aW) :=
  (gI 3 w a0 0).bind fun x1 =>
  if x1 ≤ b2 then
    if ¬ (b1 = 0 ∨ b1 = 1) then none else some (b1, w)
  else
    if ¬ b1 = (0 : Int32) then
      k4 (1 : Int32) (b2 + 1) w
    else
      (gR 3 w a0 33).bind fun r3 =>
      (gA w r3 b2).bind fun x4 =>
      (gR 3 w a0 3).bind fun r5 =>
      (gA w r5 b2).bind fun x6 =>
      if x4 = x6 then
        k4 (0 : Int32) (b2 + 1) w
      else
        k4 (1 : Int32) (b2 + 1) w
theorem t_X4_isMoved_4 (a0 : Nat) (k4 : Int32 → Int32 → aW → Option (Int32 × aW)) (hk4 : ∀ (b1 : Int32) (b2 : Int32) (w : aW), Ev rvI M_X4_isMoved 4 [some (.ref a0), some (.int b1), some (.int b2)] [] w (k4 b1 b2 w)) (b1 : Int32) (b2 : Int32) (w : aW) : Ev rvI M_X4_isMoved 4 [some (.ref a0), some (.int b1), some (.int b2)] [] w (c_X4_isMoved_4 a0 k4 b1 b2 w) := by
  unfold c_X4_isMoved_4
  refine e_iload_n (pc := 4) dX4_isMoved_4 rfl rfl ?_
  refine e_aload_n (pc := 5) dX4_isMoved_5 rfl rfl ?_
  refine e_getI (pc := 6) dX4_isMoved_6 hs_X4_92 (fun x1 => ?_)
  refine e_icmp_ge (pc := 9) (tgt := 43) dX4_isMoved_9 (by decide) (fun _ => ?_) (fun _ => ?_)
  · refine e_iload_n (pc := 43) dX4_isMoved_43 rfl rfl ?_
    refine e_chk (fun h2 => ?_)
    exact e_iret (pc := 44) dX4_isMoved_44 rfl (a_nb (Decidable.not_not.mp h2))
  · refine e_iload_n (pc := 12) dX4_isMoved_12 rfl rfl ?_
    refine e_if_ne (pc := 13) (tgt := 31) dX4_isMoved_13 (by decide) (fun _ => ?_) (fun _ => ?_)
    · refine e_iconst (pc := 31) dX4_isMoved_31 kc_1 ?_
      refine e_goto (pc := 32) (tgt := 36) dX4_isMoved_32 (by decide) ?_
      refine e_istore_n (L' := [some (.ref a0), some (.int (1 : Int32)), some (.int b2)]) (pc := 36) dX4_isMoved_36 rfl (by decide) rfl ?_
      refine e_iinc (L' := [some (.ref a0), some (.int (1 : Int32)), some (.int (b2 + 1))]) (pc := 37) (v := 1) dX4_isMoved_37 (by decide) rfl kc_1 rfl ?_
      refine e_goto (pc := 40) (tgt := 4) dX4_isMoved_40 (by decide) ?_
      exact hk4 (1 : Int32) (b2 + 1) w
    · refine e_aload_n (pc := 16) dX4_isMoved_16 rfl rfl ?_
      refine e_getR (pc := 17) dX4_isMoved_17 hs_X4_71 (fun r3 => ?_)
      refine e_iload_n (pc := 20) dX4_isMoved_20 rfl rfl ?_
      refine e_iald (pc := 21) dX4_isMoved_21 (fun x4 => ?_)
      refine e_aload_n (pc := 22) dX4_isMoved_22 rfl rfl ?_
      refine e_getR (pc := 23) dX4_isMoved_23 hs_X4_16 (fun r5 => ?_)
      refine e_iload_n (pc := 26) dX4_isMoved_26 rfl rfl ?_
      refine e_iald (pc := 27) dX4_isMoved_27 (fun x6 => ?_)
      refine e_icmp_eq (pc := 28) (tgt := 35) dX4_isMoved_28 (by decide) (fun _ => ?_) (fun _ => ?_)
      · refine e_iconst (pc := 35) dX4_isMoved_35 kc_0 ?_
        refine e_istore_n (L' := [some (.ref a0), some (.int (0 : Int32)), some (.int b2)]) (pc := 36) dX4_isMoved_36 rfl (by decide) rfl ?_
        refine e_iinc (L' := [some (.ref a0), some (.int (0 : Int32)), some (.int (b2 + 1))]) (pc := 37) (v := 1) dX4_isMoved_37 (by decide) rfl kc_1 rfl ?_
        refine e_goto (pc := 40) (tgt := 4) dX4_isMoved_40 (by decide) ?_
        exact hk4 (0 : Int32) (b2 + 1) w
      · refine e_iconst (pc := 31) dX4_isMoved_31 kc_1 ?_
        refine e_goto (pc := 32) (tgt := 36) dX4_isMoved_32 (by decide) ?_
        refine e_istore_n (L' := [some (.ref a0), some (.int (1 : Int32)), some (.int b2)]) (pc := 36) dX4_isMoved_36 rfl (by decide) rfl ?_
        refine e_iinc (L' := [some (.ref a0), some (.int (1 : Int32)), some (.int (b2 + 1))]) (pc := 37) (v := 1) dX4_isMoved_37 (by decide) rfl kc_1 rfl ?_
        refine e_goto (pc := 40) (tgt := 4) dX4_isMoved_40 (by decide) ?_
        exact hk4 (1 : Int32) (b2 + 1) w
def f_X4_isMoved (a0 : Nat) (w : aW) : Option (Int32 × aW) :=
  loop3 (c_X4_isMoved_4 a0) a_fuel (0 : Int32) (0 : Int32) w
theorem s_X4_isMoved (a0 : Nat) (w : aW) : Sp rvI M_X4_isMoved [.ref a0] w (f_X4_isMoved a0 w) := by
  refine e_entry [some (.ref a0), none, none] (by decide +kernel) (Nat.le_of_ble_eq_true rfl) (fun _ => rfl) ?_
  unfold f_X4_isMoved
  refine e_iconst (pc := 0) dX4_isMoved_0 kc_0 ?_
  refine e_istore_n (L' := [some (.ref a0), some (.int (0 : Int32)), none]) (pc := 1) dX4_isMoved_1 rfl (by decide) rfl ?_
  refine e_iconst (pc := 2) dX4_isMoved_2 kc_0 ?_
  refine e_istore_n (L' := [some (.ref a0), some (.int (0 : Int32)), some (.int (0 : Int32))]) (pc := 3) dX4_isMoved_3 rfl (by decide) rfl ?_
  exact e_loop3 (L := fun b1 b2 => [some (.ref a0), some (.int b1), some (.int b2)]) (S := fun b1 b2 => []) (fun kf hkf => t_X4_isMoved_4 a0  kf hkf) _ (0 : Int32) (0 : Int32) w
def M_X4_mark : aM := (yX4_mark, cX4_mark, 2, none, 0, 0)
theorem ok_X4_mark : a_okM M_X4_mark 0 := ⟨⟨by decide +kernel, by decide +kernel⟩, by decide +kernel, a_in 1233 (by decide +kernel) rfl, a_in 79 (by decide +kernel) rfl⟩
theorem dX4_mark_0 : decode M_X4_mark.2.1 0 = .ok (.iconst 0, 1) := by decide +kernel
theorem dX4_mark_1 : decode M_X4_mark.2.1 1 = .ok (.istore_n 1, 1) := by decide +kernel
theorem dX4_mark_2 : decode M_X4_mark.2.1 2 = .ok (.iload_n 1, 1) := by decide +kernel
theorem dX4_mark_3 : decode M_X4_mark.2.1 3 = .ok (.aload_n 0, 1) := by decide +kernel
theorem dX4_mark_4 : decode M_X4_mark.2.1 4 = .ok (.getfield 92, 3) := by decide +kernel
theorem dX4_mark_7 : decode M_X4_mark.2.1 7 = .ok (.if_icmp .ge 21, 3) := by decide +kernel
theorem dX4_mark_10 : decode M_X4_mark.2.1 10 = .ok (.aload_n 0, 1) := by decide +kernel
theorem dX4_mark_11 : decode M_X4_mark.2.1 11 = .ok (.getfield 71, 3) := by decide +kernel
theorem dX4_mark_14 : decode M_X4_mark.2.1 14 = .ok (.iload_n 1, 1) := by decide +kernel
theorem dX4_mark_15 : decode M_X4_mark.2.1 15 = .ok (.aload_n 0, 1) := by decide +kernel
theorem dX4_mark_16 : decode M_X4_mark.2.1 16 = .ok (.getfield 16, 3) := by decide +kernel
theorem dX4_mark_19 : decode M_X4_mark.2.1 19 = .ok (.iload_n 1, 1) := by decide +kernel
theorem dX4_mark_20 : decode M_X4_mark.2.1 20 = .ok (.iaload, 1) := by decide +kernel
theorem dX4_mark_21 : decode M_X4_mark.2.1 21 = .ok (.iastore, 1) := by decide +kernel
theorem dX4_mark_22 : decode M_X4_mark.2.1 22 = .ok (.iinc 1 1, 3) := by decide +kernel
theorem dX4_mark_25 : decode M_X4_mark.2.1 25 = .ok (.goto (-23), 3) := by decide +kernel
theorem dX4_mark_28 : decode M_X4_mark.2.1 28 = .ok (.return_, 1) := by decide +kernel
def c_X4_mark_2 (a0 : Nat) (k2 : Int32 → aW → Option (Unit × aW)) (b1 : Int32) (w : aW) : Option (Unit × aW) :=
  (gI 3 w a0 0).bind fun x1 =>
  if x1 ≤ b1 then
    some ((), w)
  else
    (gR 3 w a0 33).bind fun r2 =>
    (gR 3 w a0 3).bind fun r3 =>
    (gA w r3 b1).bind fun x4 =>
    (sA w r2 b1 x4).bind fun w5 =>
    k2 (b1 + 1) w5
theorem t_X4_mark_2 (a0 : Nat) (k2 : Int32 → aW → Option (Unit × aW)) (hk2 : ∀ (b1 : Int32) (w : aW), Ev rvV M_X4_mark 2 [some (.ref a0), some (.int b1)] [] w (k2 b1 w)) (b1 : Int32) (w : aW) : Ev rvV M_X4_mark 2 [some (.ref a0), some (.int b1)] [] w (c_X4_mark_2 a0 k2 b1 w) := by
  unfold c_X4_mark_2
  refine e_iload_n (pc := 2) dX4_mark_2 rfl rfl ?_
  refine e_aload_n (pc := 3) dX4_mark_3 rfl rfl ?_
  refine e_getI (pc := 4) dX4_mark_4 hs_X4_92 (fun x1 => ?_)
  refine e_icmp_ge (pc := 7) (tgt := 28) dX4_mark_7 (by decide) (fun _ => ?_) (fun _ => ?_)
  · exact e_vret (pc := 28) dX4_mark_28 rfl
  · refine e_aload_n (pc := 10) dX4_mark_10 rfl rfl ?_
    refine e_getR (pc := 11) dX4_mark_11 hs_X4_71 (fun r2 => ?_)
    refine e_iload_n (pc := 14) dX4_mark_14 rfl rfl ?_
    refine e_aload_n (pc := 15) dX4_mark_15 rfl rfl ?_
    refine e_getR (pc := 16) dX4_mark_16 hs_X4_16 (fun r3 => ?_)
    refine e_iload_n (pc := 19) dX4_mark_19 rfl rfl ?_
    refine e_iald (pc := 20) dX4_mark_20 (fun x4 => ?_)
    refine e_iast (pc := 21) dX4_mark_21 (fun w5 => ?_)
    refine e_iinc (L' := [some (.ref a0), some (.int (b1 + 1))]) (pc := 22) (v := 1) dX4_mark_22 (by decide) rfl kc_1 rfl ?_
    refine e_goto (pc := 25) (tgt := 2) dX4_mark_25 (by decide) ?_
    exact hk2 (b1 + 1) w5
def f_X4_mark (a0 : Nat) (w : aW) : Option (Unit × aW) :=
  loop2 (c_X4_mark_2 a0) a_fuel (0 : Int32) w
theorem s_X4_mark (a0 : Nat) (w : aW) : Sp rvV M_X4_mark [.ref a0] w (f_X4_mark a0 w) := by
  refine e_entry [some (.ref a0), none] (by decide +kernel) (Nat.le_of_ble_eq_true rfl) (fun _ => rfl) ?_
  unfold f_X4_mark
  refine e_iconst (pc := 0) dX4_mark_0 kc_0 ?_
  refine e_istore_n (L' := [some (.ref a0), some (.int (0 : Int32))]) (pc := 1) dX4_mark_1 rfl (by decide) rfl ?_
  exact e_loop2 (L := fun b1 => [some (.ref a0), some (.int b1)]) (S := fun b1 => []) (fun kf hkf => t_X4_mark_2 a0  kf hkf) _ (0 : Int32) w
def M_X4_still : aM := (yX4_still, cX4_still, 4, (some .int), 5, 113)
theorem ok_X4_still : a_okM M_X4_still 0 := ⟨⟨by decide +kernel, by decide +kernel⟩, by decide +kernel, a_in 1229 (by decide +kernel) rfl, a_in 79 (by decide +kernel) rfl⟩
theorem dX4_still_0 : decode M_X4_still.2.1 0 = .ok (.aload_n 0, 1) := by decide +kernel
theorem dX4_still_1 : decode M_X4_still.2.1 1 = .ok (.iconst 0, 1) := by decide +kernel
theorem dX4_still_2 : decode M_X4_still.2.1 2 = .ok (.putfield 80, 3) := by decide +kernel
theorem dX4_still_5 : decode M_X4_still.2.1 5 = .ok (.iconst 0, 1) := by decide +kernel
theorem dX4_still_6 : decode M_X4_still.2.1 6 = .ok (.istore_n 1, 1) := by decide +kernel
theorem dX4_still_7 : decode M_X4_still.2.1 7 = .ok (.bipush (-4), 2) := by decide +kernel
theorem dX4_still_9 : decode M_X4_still.2.1 9 = .ok (.istore_n 2, 1) := by decide +kernel
theorem dX4_still_10 : decode M_X4_still.2.1 10 = .ok (.aload_n 0, 1) := by decide +kernel
theorem dX4_still_11 : decode M_X4_still.2.1 11 = .ok (.invokevirtual 221, 3) := by decide +kernel
theorem dX4_still_14 : decode M_X4_still.2.1 14 = .ok (.iconst 1, 1) := by decide +kernel
theorem dX4_still_15 : decode M_X4_still.2.1 15 = .ok (.istore_n 3, 1) := by decide +kernel
theorem dX4_still_16 : decode M_X4_still.2.1 16 = .ok (.iload_n 3, 1) := by decide +kernel
theorem dX4_still_17 : decode M_X4_still.2.1 17 = .ok (.bipush 60, 2) := by decide +kernel
theorem dX4_still_19 : decode M_X4_still.2.1 19 = .ok (.if_icmp .gt 49, 3) := by decide +kernel
theorem dX4_still_22 : decode M_X4_still.2.1 22 = .ok (.iload_n 2, 1) := by decide +kernel
theorem dX4_still_23 : decode M_X4_still.2.1 23 = .ok (.ifCond .ge 45, 3) := by decide +kernel
theorem dX4_still_26 : decode M_X4_still.2.1 26 = .ok (.aload_n 0, 1) := by decide +kernel
theorem dX4_still_27 : decode M_X4_still.2.1 27 = .ok (.invokevirtual 281, 3) := by decide +kernel
theorem dX4_still_30 : decode M_X4_still.2.1 30 = .ok (.aload_n 0, 1) := by decide +kernel
theorem dX4_still_31 : decode M_X4_still.2.1 31 = .ok (.invokevirtual 149, 3) := by decide +kernel
theorem dX4_still_34 : decode M_X4_still.2.1 34 = .ok (.aload_n 0, 1) := by decide +kernel
theorem dX4_still_35 : decode M_X4_still.2.1 35 = .ok (.invokevirtual 284, 3) := by decide +kernel
theorem dX4_still_38 : decode M_X4_still.2.1 38 = .ok (.ifCond .eq 7, 3) := by decide +kernel
theorem dX4_still_41 : decode M_X4_still.2.1 41 = .ok (.iload_n 3, 1) := by decide +kernel
theorem dX4_still_42 : decode M_X4_still.2.1 42 = .ok (.goto 4, 3) := by decide +kernel
theorem dX4_still_45 : decode M_X4_still.2.1 45 = .ok (.iload_n 1, 1) := by decide +kernel
theorem dX4_still_46 : decode M_X4_still.2.1 46 = .ok (.istore_n 1, 1) := by decide +kernel
theorem dX4_still_47 : decode M_X4_still.2.1 47 = .ok (.iload_n 3, 1) := by decide +kernel
theorem dX4_still_48 : decode M_X4_still.2.1 48 = .ok (.iload_n 1, 1) := by decide +kernel
theorem dX4_still_49 : decode M_X4_still.2.1 49 = .ok (.isub, 1) := by decide +kernel
theorem dX4_still_50 : decode M_X4_still.2.1 50 = .ok (.bipush 20, 2) := by decide +kernel
theorem dX4_still_52 : decode M_X4_still.2.1 52 = .ok (.if_icmp .ne 7, 3) := by decide +kernel
theorem dX4_still_55 : decode M_X4_still.2.1 55 = .ok (.iload_n 1, 1) := by decide +kernel
theorem dX4_still_56 : decode M_X4_still.2.1 56 = .ok (.goto 5, 3) := by decide +kernel
theorem dX4_still_59 : decode M_X4_still.2.1 59 = .ok (.bipush (-4), 2) := by decide +kernel
theorem dX4_still_61 : decode M_X4_still.2.1 61 = .ok (.istore_n 2, 1) := by decide +kernel
theorem dX4_still_62 : decode M_X4_still.2.1 62 = .ok (.iinc 3 1, 3) := by decide +kernel
theorem dX4_still_65 : decode M_X4_still.2.1 65 = .ok (.goto (-49), 3) := by decide +kernel
theorem dX4_still_68 : decode M_X4_still.2.1 68 = .ok (.aload_n 0, 1) := by decide +kernel
theorem dX4_still_69 : decode M_X4_still.2.1 69 = .ok (.invokevirtual 227, 3) := by decide +kernel
theorem dX4_still_72 : decode M_X4_still.2.1 72 = .ok (.iload_n 2, 1) := by decide +kernel
theorem dX4_still_73 : decode M_X4_still.2.1 73 = .ok (.ireturn, 1) := by decide +kernel
theorem hv_X4_281 : a_okV RX4 M_X4_mark 281 := ⟨a_in 1230 (by decide +kernel) rfl, a_in 1232 (by decide +kernel) rfl, a_in 56 (by decide +kernel) rfl⟩
theorem hv_X4_284 : a_okV RX4 M_X4_isMoved 284 := ⟨a_in 1234 (by decide +kernel) rfl, a_in 1236 (by decide +kernel) rfl, a_in 57 (by decide +kernel) rfl⟩
def c_X4_still_46 (a0 : Nat) (k16 : Int32 → Int32 → Int32 → aW → Option (Int32 × aW)) (b3 : Int32) (s0 : Int32) (w : aW) : Option (Int32 × aW) :=
  if ¬ (b3 - s0) = (20 : Int32) then
    k16 s0 (-4 : Int32) (b3 + 1) w
  else
    k16 s0 s0 (b3 + 1) w
theorem t_X4_still_46 (a0 : Nat) (k16 : Int32 → Int32 → Int32 → aW → Option (Int32 × aW)) (hk16 : ∀ (b1 : Int32) (b2 : Int32) (b3 : Int32) (w : aW), Ev rvI M_X4_still 16 [some (.ref a0), some (.int b1), some (.int b2), some (.int b3)] [] w (k16 b1 b2 b3 w)) (b3 : Int32) (s0 : Int32) (w : aW) : Ev rvI M_X4_still 46 [some (.ref a0), none, none, some (.int b3)] [.int s0] w (c_X4_still_46 a0 k16 b3 s0 w) := by
  unfold c_X4_still_46
  refine e_istore_n (L' := [some (.ref a0), some (.int s0), none, some (.int b3)]) (pc := 46) dX4_still_46 rfl (by decide) rfl ?_
  refine e_iload_n (pc := 47) dX4_still_47 rfl rfl ?_
  refine e_iload_n (pc := 48) dX4_still_48 rfl rfl ?_
  refine e_isub (pc := 49) dX4_still_49 ?_
  refine e_bipush (pc := 50) dX4_still_50 kb_20 ?_
  refine e_icmp_ne (pc := 52) (tgt := 59) dX4_still_52 (by decide) (fun _ => ?_) (fun _ => ?_)
  · refine e_bipush (pc := 59) dX4_still_59 kb_m4 ?_
    refine e_istore_n (L' := [some (.ref a0), some (.int s0), some (.int (-4 : Int32)), some (.int b3)]) (pc := 61) dX4_still_61 rfl (by decide) rfl ?_
    refine e_iinc (L' := [some (.ref a0), some (.int s0), some (.int (-4 : Int32)), some (.int (b3 + 1))]) (pc := 62) (v := 1) dX4_still_62 (by decide) rfl kc_1 rfl ?_
    refine e_goto (pc := 65) (tgt := 16) dX4_still_65 (by decide) ?_
    exact hk16 s0 (-4 : Int32) (b3 + 1) w
  · refine e_iload_n (pc := 55) dX4_still_55 rfl rfl ?_
    refine e_goto (pc := 56) (tgt := 61) dX4_still_56 (by decide) ?_
    refine e_istore_n (L' := [some (.ref a0), some (.int s0), some (.int s0), some (.int b3)]) (pc := 61) dX4_still_61 rfl (by decide) rfl ?_
    refine e_iinc (L' := [some (.ref a0), some (.int s0), some (.int s0), some (.int (b3 + 1))]) (pc := 62) (v := 1) dX4_still_62 (by decide) rfl kc_1 rfl ?_
    refine e_goto (pc := 65) (tgt := 16) dX4_still_65 (by decide) ?_
    exact hk16 s0 s0 (b3 + 1) w
def c_X4_still_16 (a0 : Nat) (k16 : Int32 → Int32 → Int32 → aW → Option (Int32 × aW)) (b1 : Int32) (b2 : Int32) (b3 : Int32) (w : aW) : Option (Int32 × aW) :=
  if (60 : Int32) < b3 then
    cV 3 w a0 (bk (f_X4_again a0 w) fun _ w3 =>
    some (b2, w3))
  else
    if (0 : Int32) ≤ b2 then
      cV 3 w a0 (bk (f_X4_again a0 w) fun _ w4 =>
      some (b2, w4))
    else
      cV 3 w a0 (bk (f_X4_mark a0 w) fun _ w5 =>
      cV 3 w5 a0 (bk (f_X4_dayOn a0 w5) fun _ w6 =>
      cV 3 w6 a0 (bk (f_X4_isMoved a0 w6) fun x8 w7 =>
      if x8 = (0 : Int32) then
        c_X4_still_46 a0 k16 b3 b1 w7
      else
        c_X4_still_46 a0 k16 b3 b3 w7)))
theorem t_X4_still_16 (a0 : Nat) (k16 : Int32 → Int32 → Int32 → aW → Option (Int32 × aW)) (hk16 : ∀ (b1 : Int32) (b2 : Int32) (b3 : Int32) (w : aW), Ev rvI M_X4_still 16 [some (.ref a0), some (.int b1), some (.int b2), some (.int b3)] [] w (k16 b1 b2 b3 w)) (b1 : Int32) (b2 : Int32) (b3 : Int32) (w : aW) : Ev rvI M_X4_still 16 [some (.ref a0), some (.int b1), some (.int b2), some (.int b3)] [] w (c_X4_still_16 a0 k16 b1 b2 b3 w) := by
  unfold c_X4_still_16
  refine e_iload_n (pc := 16) dX4_still_16 rfl rfl ?_
  refine e_bipush (pc := 17) dX4_still_17 kb_60 ?_
  refine e_icmp_gt (pc := 19) (tgt := 68) dX4_still_19 (by decide) (fun _ => ?_) (fun _ => ?_)
  · refine e_aload_n (pc := 68) dX4_still_68 rfl rfl ?_
    refine e_callV (pc := 69) (av := []) (S := []) (c0 := 3) rfl rfl ok_X4_again ⟨Nat.le_of_ble_eq_true rfl, Nat.le_of_ble_eq_true rfl⟩ hv_X4_227 dX4_still_69 (s_X4_again a0 w) rfl rfl (Nat.le_of_ble_eq_true rfl) (fun _ w3 => ?_)
    refine e_iload_n (pc := 72) dX4_still_72 rfl rfl ?_
    exact e_iret (pc := 73) dX4_still_73 rfl rfl
  · refine e_iload_n (pc := 22) dX4_still_22 rfl rfl ?_
    refine e_if_ge (pc := 23) (tgt := 68) dX4_still_23 (by decide) (fun _ => ?_) (fun _ => ?_)
    · refine e_aload_n (pc := 68) dX4_still_68 rfl rfl ?_
      refine e_callV (pc := 69) (av := []) (S := []) (c0 := 3) rfl rfl ok_X4_again ⟨Nat.le_of_ble_eq_true rfl, Nat.le_of_ble_eq_true rfl⟩ hv_X4_227 dX4_still_69 (s_X4_again a0 w) rfl rfl (Nat.le_of_ble_eq_true rfl) (fun _ w4 => ?_)
      refine e_iload_n (pc := 72) dX4_still_72 rfl rfl ?_
      exact e_iret (pc := 73) dX4_still_73 rfl rfl
    · refine e_aload_n (pc := 26) dX4_still_26 rfl rfl ?_
      refine e_callV (pc := 27) (av := []) (S := []) (c0 := 3) rfl rfl ok_X4_mark ⟨Nat.le_of_ble_eq_true rfl, Nat.le_of_ble_eq_true rfl⟩ hv_X4_281 dX4_still_27 (s_X4_mark a0 w) rfl rfl (Nat.le_of_ble_eq_true rfl) (fun _ w5 => ?_)
      refine e_aload_n (pc := 30) dX4_still_30 rfl rfl ?_
      refine e_callV (pc := 31) (av := []) (S := []) (c0 := 3) rfl rfl ok_X4_dayOn ⟨Nat.le_of_ble_eq_true rfl, Nat.le_of_ble_eq_true rfl⟩ hv_X4_149 dX4_still_31 (s_X4_dayOn a0 w5) rfl rfl (Nat.le_of_ble_eq_true rfl) (fun _ w6 => ?_)
      refine e_aload_n (pc := 34) dX4_still_34 rfl rfl ?_
      refine e_callV (pc := 35) (av := []) (S := []) (c0 := 3) rfl rfl ok_X4_isMoved ⟨Nat.le_of_ble_eq_true rfl, Nat.le_of_ble_eq_true rfl⟩ hv_X4_284 dX4_still_35 (s_X4_isMoved a0 w6) rfl rfl (Nat.le_of_ble_eq_true rfl) (fun x8 w7 => ?_)
      refine e_if_eq (pc := 38) (tgt := 45) dX4_still_38 (by decide) (fun _ => ?_) (fun _ => ?_)
      · refine e_iload_n (pc := 45) dX4_still_45 rfl rfl ?_
        refine e_forget (L2 := [some (.ref a0), none, none, some (.int b3)]) (And.intro rfl (And.intro rfl trivial)) ?_
        exact t_X4_still_46 a0 k16 hk16 b3 b1 w7
      · refine e_iload_n (pc := 41) dX4_still_41 rfl rfl ?_
        refine e_goto (pc := 42) (tgt := 46) dX4_still_42 (by decide) ?_
        refine e_forget (L2 := [some (.ref a0), none, none, some (.int b3)]) (And.intro rfl (And.intro rfl trivial)) ?_
        exact t_X4_still_46 a0 k16 hk16 b3 b3 w7
def f_X4_still (a0 : Nat) (w : aW) : Option (Int32 × aW) :=
  (sF 3 w a0 19 (.int (0 : Int32))).bind fun w1 =>
  cV 3 w1 a0 (bk (f_X4_think a0 w1) fun _ w2 =>
  loop4 (c_X4_still_16 a0) a_fuel (0 : Int32) (-4 : Int32) (1 : Int32) w2)
theorem s_X4_still (a0 : Nat) (w : aW) : Sp rvI M_X4_still [.ref a0] w (f_X4_still a0 w) := by
  refine e_entry [some (.ref a0), none, none, none] (by decide +kernel) (Nat.le_of_ble_eq_true rfl) (fun _ => rfl) ?_
  unfold f_X4_still
  refine e_aload_n (pc := 0) dX4_still_0 rfl rfl ?_
  refine e_iconst (pc := 1) dX4_still_1 kc_0 ?_
  refine e_put (pc := 2) dX4_still_2 hw_X4_80 (fun _ => rfl) (fun _ => rfl) (fun w1 => ?_)
  refine e_iconst (pc := 5) dX4_still_5 kc_0 ?_
  refine e_istore_n (L' := [some (.ref a0), some (.int (0 : Int32)), none, none]) (pc := 6) dX4_still_6 rfl (by decide) rfl ?_
  refine e_bipush (pc := 7) dX4_still_7 kb_m4 ?_
  refine e_istore_n (L' := [some (.ref a0), some (.int (0 : Int32)), some (.int (-4 : Int32)), none]) (pc := 9) dX4_still_9 rfl (by decide) rfl ?_
  refine e_aload_n (pc := 10) dX4_still_10 rfl rfl ?_
  refine e_callV (pc := 11) (av := []) (S := []) (c0 := 3) rfl rfl ok_X4_think ⟨Nat.le_of_ble_eq_true rfl, Nat.le_of_ble_eq_true rfl⟩ hv_X4_221 dX4_still_11 (s_X4_think a0 w1) rfl rfl (Nat.le_of_ble_eq_true rfl) (fun _ w2 => ?_)
  refine e_iconst (pc := 14) dX4_still_14 kc_1 ?_
  refine e_istore_n (L' := [some (.ref a0), some (.int (0 : Int32)), some (.int (-4 : Int32)), some (.int (1 : Int32))]) (pc := 15) dX4_still_15 rfl (by decide) rfl ?_
  exact e_loop4 (L := fun b1 b2 b3 => [some (.ref a0), some (.int b1), some (.int b2), some (.int b3)]) (S := fun b1 b2 b3 => []) (fun kf hkf => t_X4_still_16 a0  kf hkf) _ (0 : Int32) (-4 : Int32) (1 : Int32) w2
def M_X4_movedBits : aM := (yX4_movedBits, cX4_movedBits, 3, (some .int), 0, 0)
theorem ok_X4_movedBits : a_okM M_X4_movedBits 0 := ⟨⟨by decide +kernel, by decide +kernel⟩, by decide +kernel, a_in 1249 (by decide +kernel) rfl, a_in 79 (by decide +kernel) rfl⟩
theorem dX4_movedBits_0 : decode M_X4_movedBits.2.1 0 = .ok (.iconst 0, 1) := by decide +kernel
theorem dX4_movedBits_1 : decode M_X4_movedBits.2.1 1 = .ok (.istore_n 1, 1) := by decide +kernel
theorem dX4_movedBits_2 : decode M_X4_movedBits.2.1 2 = .ok (.iconst 0, 1) := by decide +kernel
theorem dX4_movedBits_3 : decode M_X4_movedBits.2.1 3 = .ok (.istore_n 2, 1) := by decide +kernel
theorem dX4_movedBits_4 : decode M_X4_movedBits.2.1 4 = .ok (.iload_n 2, 1) := by decide +kernel
theorem dX4_movedBits_5 : decode M_X4_movedBits.2.1 5 = .ok (.aload_n 0, 1) := by decide +kernel
theorem dX4_movedBits_6 : decode M_X4_movedBits.2.1 6 = .ok (.getfield 92, 3) := by decide +kernel
theorem dX4_movedBits_9 : decode M_X4_movedBits.2.1 9 = .ok (.if_icmp .ge 34, 3) := by decide +kernel
theorem dX4_movedBits_12 : decode M_X4_movedBits.2.1 12 = .ok (.iload_n 1, 1) := by decide +kernel
theorem dX4_movedBits_13 : decode M_X4_movedBits.2.1 13 = .ok (.aload_n 0, 1) := by decide +kernel
theorem dX4_movedBits_14 : decode M_X4_movedBits.2.1 14 = .ok (.getfield 71, 3) := by decide +kernel
theorem dX4_movedBits_17 : decode M_X4_movedBits.2.1 17 = .ok (.iload_n 2, 1) := by decide +kernel
theorem dX4_movedBits_18 : decode M_X4_movedBits.2.1 18 = .ok (.iaload, 1) := by decide +kernel
theorem dX4_movedBits_19 : decode M_X4_movedBits.2.1 19 = .ok (.aload_n 0, 1) := by decide +kernel
theorem dX4_movedBits_20 : decode M_X4_movedBits.2.1 20 = .ok (.getfield 16, 3) := by decide +kernel
theorem dX4_movedBits_23 : decode M_X4_movedBits.2.1 23 = .ok (.iload_n 2, 1) := by decide +kernel
theorem dX4_movedBits_24 : decode M_X4_movedBits.2.1 24 = .ok (.iaload, 1) := by decide +kernel
theorem dX4_movedBits_25 : decode M_X4_movedBits.2.1 25 = .ok (.if_icmp .eq 9, 3) := by decide +kernel
theorem dX4_movedBits_28 : decode M_X4_movedBits.2.1 28 = .ok (.iconst 1, 1) := by decide +kernel
theorem dX4_movedBits_29 : decode M_X4_movedBits.2.1 29 = .ok (.iload_n 2, 1) := by decide +kernel
theorem dX4_movedBits_30 : decode M_X4_movedBits.2.1 30 = .ok (.ishl, 1) := by decide +kernel
theorem dX4_movedBits_31 : decode M_X4_movedBits.2.1 31 = .ok (.goto 4, 3) := by decide +kernel
theorem dX4_movedBits_34 : decode M_X4_movedBits.2.1 34 = .ok (.iconst 0, 1) := by decide +kernel
theorem dX4_movedBits_35 : decode M_X4_movedBits.2.1 35 = .ok (.ior, 1) := by decide +kernel
theorem dX4_movedBits_36 : decode M_X4_movedBits.2.1 36 = .ok (.istore_n 1, 1) := by decide +kernel
theorem dX4_movedBits_37 : decode M_X4_movedBits.2.1 37 = .ok (.iinc 2 1, 3) := by decide +kernel
theorem dX4_movedBits_40 : decode M_X4_movedBits.2.1 40 = .ok (.goto (-36), 3) := by decide +kernel
theorem dX4_movedBits_43 : decode M_X4_movedBits.2.1 43 = .ok (.iload_n 1, 1) := by decide +kernel
theorem dX4_movedBits_44 : decode M_X4_movedBits.2.1 44 = .ok (.ireturn, 1) := by decide +kernel
def c_X4_movedBits_4 (a0 : Nat) (k4 : Int32 → Int32 → aW → Option (Int32 × aW)) (b1 : Int32) (b2 : Int32) (w : aW) : Option (Int32 × aW) :=
  (gI 3 w a0 0).bind fun x1 =>
  if x1 ≤ b2 then
    some (b1, w)
  else
    (gR 3 w a0 33).bind fun r2 =>
    (gA w r2 b2).bind fun x3 =>
    (gR 3 w a0 3).bind fun r4 =>
    (gA w r4 b2).bind fun x5 =>
    if x3 = x5 then
      k4 (b1 ||| (0 : Int32)) (b2 + 1) w
    else
      k4 (b1 ||| ((1 : Int32) <<< (b2 &&& 31))) (b2 + 1) w
theorem t_X4_movedBits_4 (a0 : Nat) (k4 : Int32 → Int32 → aW → Option (Int32 × aW)) (hk4 : ∀ (b1 : Int32) (b2 : Int32) (w : aW), Ev rvI M_X4_movedBits 4 [some (.ref a0), some (.int b1), some (.int b2)] [] w (k4 b1 b2 w)) (b1 : Int32) (b2 : Int32) (w : aW) : Ev rvI M_X4_movedBits 4 [some (.ref a0), some (.int b1), some (.int b2)] [] w (c_X4_movedBits_4 a0 k4 b1 b2 w) := by
  unfold c_X4_movedBits_4
  refine e_iload_n (pc := 4) dX4_movedBits_4 rfl rfl ?_
  refine e_aload_n (pc := 5) dX4_movedBits_5 rfl rfl ?_
  refine e_getI (pc := 6) dX4_movedBits_6 hs_X4_92 (fun x1 => ?_)
  refine e_icmp_ge (pc := 9) (tgt := 43) dX4_movedBits_9 (by decide) (fun _ => ?_) (fun _ => ?_)
  · refine e_iload_n (pc := 43) dX4_movedBits_43 rfl rfl ?_
    exact e_iret (pc := 44) dX4_movedBits_44 rfl rfl
  · refine e_iload_n (pc := 12) dX4_movedBits_12 rfl rfl ?_
    refine e_aload_n (pc := 13) dX4_movedBits_13 rfl rfl ?_
    refine e_getR (pc := 14) dX4_movedBits_14 hs_X4_71 (fun r2 => ?_)
    refine e_iload_n (pc := 17) dX4_movedBits_17 rfl rfl ?_
    refine e_iald (pc := 18) dX4_movedBits_18 (fun x3 => ?_)
    refine e_aload_n (pc := 19) dX4_movedBits_19 rfl rfl ?_
    refine e_getR (pc := 20) dX4_movedBits_20 hs_X4_16 (fun r4 => ?_)
    refine e_iload_n (pc := 23) dX4_movedBits_23 rfl rfl ?_
    refine e_iald (pc := 24) dX4_movedBits_24 (fun x5 => ?_)
    refine e_icmp_eq (pc := 25) (tgt := 34) dX4_movedBits_25 (by decide) (fun _ => ?_) (fun _ => ?_)
    · refine e_iconst (pc := 34) dX4_movedBits_34 kc_0 ?_
      refine e_ior (pc := 35) dX4_movedBits_35 ?_
      refine e_istore_n (L' := [some (.ref a0), some (.int (b1 ||| (0 : Int32))), some (.int b2)]) (pc := 36) dX4_movedBits_36 rfl (by decide) rfl ?_
      refine e_iinc (L' := [some (.ref a0), some (.int (b1 ||| (0 : Int32))), some (.int (b2 + 1))]) (pc := 37) (v := 1) dX4_movedBits_37 (by decide) rfl kc_1 rfl ?_
      refine e_goto (pc := 40) (tgt := 4) dX4_movedBits_40 (by decide) ?_
      exact hk4 (b1 ||| (0 : Int32)) (b2 + 1) w
    · refine e_iconst (pc := 28) dX4_movedBits_28 kc_1 ?_
      refine e_iload_n (pc := 29) dX4_movedBits_29 rfl rfl ?_
      refine e_ishl (pc := 30) dX4_movedBits_30 ?_
      refine e_goto (pc := 31) (tgt := 35) dX4_movedBits_31 (by decide) ?_
      refine e_ior (pc := 35) dX4_movedBits_35 ?_
      refine e_istore_n (L' := [some (.ref a0), some (.int (b1 ||| ((1 : Int32) <<< (b2 &&& 31)))), some (.int b2)]) (pc := 36) dX4_movedBits_36 rfl (by decide) rfl ?_
      refine e_iinc (L' := [some (.ref a0), some (.int (b1 ||| ((1 : Int32) <<< (b2 &&& 31)))), some (.int (b2 + 1))]) (pc := 37) (v := 1) dX4_movedBits_37 (by decide) rfl kc_1 rfl ?_
      refine e_goto (pc := 40) (tgt := 4) dX4_movedBits_40 (by decide) ?_
      exact hk4 (b1 ||| ((1 : Int32) <<< (b2 &&& 31))) (b2 + 1) w
def f_X4_movedBits (a0 : Nat) (w : aW) : Option (Int32 × aW) :=
  loop3 (c_X4_movedBits_4 a0) a_fuel (0 : Int32) (0 : Int32) w
theorem s_X4_movedBits (a0 : Nat) (w : aW) : Sp rvI M_X4_movedBits [.ref a0] w (f_X4_movedBits a0 w) := by
  refine e_entry [some (.ref a0), none, none] (by decide +kernel) (Nat.le_of_ble_eq_true rfl) (fun _ => rfl) ?_
  unfold f_X4_movedBits
  refine e_iconst (pc := 0) dX4_movedBits_0 kc_0 ?_
  refine e_istore_n (L' := [some (.ref a0), some (.int (0 : Int32)), none]) (pc := 1) dX4_movedBits_1 rfl (by decide) rfl ?_
  refine e_iconst (pc := 2) dX4_movedBits_2 kc_0 ?_
  refine e_istore_n (L' := [some (.ref a0), some (.int (0 : Int32)), some (.int (0 : Int32))]) (pc := 3) dX4_movedBits_3 rfl (by decide) rfl ?_
  exact e_loop3 (L := fun b1 b2 => [some (.ref a0), some (.int b1), some (.int b2)]) (S := fun b1 b2 => []) (fun kf hkf => t_X4_movedBits_4 a0  kf hkf) _ (0 : Int32) (0 : Int32) w
def M_X4_next : aM := (yX4_next, cX4_next, 5, (some .int), 5, 113)
theorem ok_X4_next : a_okM M_X4_next 1 := ⟨⟨by decide +kernel, by decide +kernel⟩, by decide +kernel, a_in 1241 (by decide +kernel) rfl, a_in 79 (by decide +kernel) rfl⟩
theorem dX4_next_0 : decode M_X4_next.2.1 0 = .ok (.aload_n 0, 1) := by decide +kernel
theorem dX4_next_1 : decode M_X4_next.2.1 1 = .ok (.iconst 0, 1) := by decide +kernel
theorem dX4_next_2 : decode M_X4_next.2.1 2 = .ok (.putfield 80, 3) := by decide +kernel
theorem dX4_next_5 : decode M_X4_next.2.1 5 = .ok (.iload_n 1, 1) := by decide +kernel
theorem dX4_next_6 : decode M_X4_next.2.1 6 = .ok (.i2l, 1) := by decide +kernel
theorem dX4_next_7 : decode M_X4_next.2.1 7 = .ok (.lconst 0, 1) := by decide +kernel
theorem dX4_next_8 : decode M_X4_next.2.1 8 = .ok (.ldc2_w 274, 3) := by decide +kernel
theorem dX4_next_11 : decode M_X4_next.2.1 11 = .ok (.invokestatic 86, 3) := by decide +kernel
theorem dX4_next_14 : decode M_X4_next.2.1 14 = .ok (.ifCond .ne 5, 3) := by decide +kernel
theorem dX4_next_17 : decode M_X4_next.2.1 17 = .ok (.iconst (-1), 1) := by decide +kernel
theorem dX4_next_18 : decode M_X4_next.2.1 18 = .ok (.ireturn, 1) := by decide +kernel
theorem dX4_next_19 : decode M_X4_next.2.1 19 = .ok (.aload_n 0, 1) := by decide +kernel
theorem dX4_next_20 : decode M_X4_next.2.1 20 = .ok (.invokevirtual 288, 3) := by decide +kernel
theorem dX4_next_23 : decode M_X4_next.2.1 23 = .ok (.istore_n 2, 1) := by decide +kernel
theorem dX4_next_24 : decode M_X4_next.2.1 24 = .ok (.aload_n 0, 1) := by decide +kernel
theorem dX4_next_25 : decode M_X4_next.2.1 25 = .ok (.getfield 107, 3) := by decide +kernel
theorem dX4_next_28 : decode M_X4_next.2.1 28 = .ok (.istore_n 3, 1) := by decide +kernel
theorem dX4_next_29 : decode M_X4_next.2.1 29 = .ok (.aload_n 0, 1) := by decide +kernel
theorem dX4_next_30 : decode M_X4_next.2.1 30 = .ok (.invokevirtual 281, 3) := by decide +kernel
theorem dX4_next_33 : decode M_X4_next.2.1 33 = .ok (.aload_n 0, 1) := by decide +kernel
theorem dX4_next_34 : decode M_X4_next.2.1 34 = .ok (.invokevirtual 221, 3) := by decide +kernel
theorem dX4_next_37 : decode M_X4_next.2.1 37 = .ok (.aload_n 0, 1) := by decide +kernel
theorem dX4_next_38 : decode M_X4_next.2.1 38 = .ok (.invokevirtual 149, 3) := by decide +kernel
theorem dX4_next_41 : decode M_X4_next.2.1 41 = .ok (.iload_n 1, 1) := by decide +kernel
theorem dX4_next_42 : decode M_X4_next.2.1 42 = .ok (.ifCond .ne 14, 3) := by decide +kernel
theorem dX4_next_45 : decode M_X4_next.2.1 45 = .ok (.aload_n 0, 1) := by decide +kernel
theorem dX4_next_46 : decode M_X4_next.2.1 46 = .ok (.invokevirtual 288, 3) := by decide +kernel
theorem dX4_next_49 : decode M_X4_next.2.1 49 = .ok (.iload_n 2, 1) := by decide +kernel
theorem dX4_next_50 : decode M_X4_next.2.1 50 = .ok (.iconst (-1), 1) := by decide +kernel
theorem dX4_next_51 : decode M_X4_next.2.1 51 = .ok (.ixor, 1) := by decide +kernel
theorem dX4_next_52 : decode M_X4_next.2.1 52 = .ok (.iand, 1) := by decide +kernel
theorem dX4_next_53 : decode M_X4_next.2.1 53 = .ok (.goto 23, 3) := by decide +kernel
theorem dX4_next_56 : decode M_X4_next.2.1 56 = .ok (.iload_n 1, 1) := by decide +kernel
theorem dX4_next_57 : decode M_X4_next.2.1 57 = .ok (.iconst 1, 1) := by decide +kernel
theorem dX4_next_58 : decode M_X4_next.2.1 58 = .ok (.if_icmp .ne 14, 3) := by decide +kernel
theorem dX4_next_61 : decode M_X4_next.2.1 61 = .ok (.iload_n 3, 1) := by decide +kernel
theorem dX4_next_62 : decode M_X4_next.2.1 62 = .ok (.aload_n 0, 1) := by decide +kernel
theorem dX4_next_63 : decode M_X4_next.2.1 63 = .ok (.getfield 107, 3) := by decide +kernel
theorem dX4_next_66 : decode M_X4_next.2.1 66 = .ok (.iconst (-1), 1) := by decide +kernel
theorem dX4_next_67 : decode M_X4_next.2.1 67 = .ok (.ixor, 1) := by decide +kernel
theorem dX4_next_68 : decode M_X4_next.2.1 68 = .ok (.iand, 1) := by decide +kernel
theorem dX4_next_69 : decode M_X4_next.2.1 69 = .ok (.goto 7, 3) := by decide +kernel
theorem dX4_next_72 : decode M_X4_next.2.1 72 = .ok (.aload_n 0, 1) := by decide +kernel
theorem dX4_next_73 : decode M_X4_next.2.1 73 = .ok (.invokevirtual 291, 3) := by decide +kernel
theorem dX4_next_76 : decode M_X4_next.2.1 76 = .ok (.istore 4, 2) := by decide +kernel
theorem dX4_next_78 : decode M_X4_next.2.1 78 = .ok (.aload_n 0, 1) := by decide +kernel
theorem dX4_next_79 : decode M_X4_next.2.1 79 = .ok (.invokevirtual 227, 3) := by decide +kernel
theorem dX4_next_82 : decode M_X4_next.2.1 82 = .ok (.iload 4, 2) := by decide +kernel
theorem dX4_next_84 : decode M_X4_next.2.1 84 = .ok (.ireturn, 1) := by decide +kernel
theorem hv_X4_288 : a_okV RX4 M_X4_calledAll 288 := ⟨a_in 1242 (by decide +kernel) rfl, a_in 1244 (by decide +kernel) rfl, a_in 58 (by decide +kernel) rfl⟩
theorem hv_X4_291 : a_okV RX4 M_X4_movedBits 291 := ⟨a_in 1246 (by decide +kernel) rfl, a_in 1248 (by decide +kernel) rfl, a_in 59 (by decide +kernel) rfl⟩
def f_X4_next (a0 : Nat) (a1 : Int32) (w : aW) : Option (Int32 × aW) :=
  (sF 3 w a0 19 (.int (0 : Int32))).bind fun w1 =>
  bk (f_X4_in a1.toInt64 (0 : Int64) (2 : Int64) w1) fun x3 w2 =>
  if ¬ x3 = (0 : Int32) then
    cV 3 w2 a0 (bk (f_X4_calledAll a0 w2) fun x5 w4 =>
    (gI 3 w4 a0 6).bind fun x6 =>
    cV 3 w4 a0 (bk (f_X4_mark a0 w4) fun _ w7 =>
    cV 3 w7 a0 (bk (f_X4_think a0 w7) fun _ w8 =>
    cV 3 w8 a0 (bk (f_X4_dayOn a0 w8) fun _ w9 =>
    if ¬ a1 = (0 : Int32) then
      if ¬ a1 = (1 : Int32) then
        cV 3 w9 a0 (bk (f_X4_movedBits a0 w9) fun x11 w10 =>
        cV 3 w10 a0 (bk (f_X4_again a0 w10) fun _ w12 =>
        some (x11, w12)))
      else
        (gI 3 w9 a0 6).bind fun x13 =>
        cV 3 w9 a0 (bk (f_X4_again a0 w9) fun _ w14 =>
        some ((x6 &&& (x13 ^^^ (-1 : Int32))), w14))
    else
      cV 3 w9 a0 (bk (f_X4_calledAll a0 w9) fun x16 w15 =>
      cV 3 w15 a0 (bk (f_X4_again a0 w15) fun _ w17 =>
      some ((x16 &&& (x5 ^^^ (-1 : Int32))), w17)))))))
  else
    some ((-1 : Int32), w2)
theorem s_X4_next (a0 : Nat) (a1 : Int32) (w : aW) : Sp rvI M_X4_next [.ref a0, .int a1] w (f_X4_next a0 a1 w) := by
  refine e_entry [some (.ref a0), some (.int a1), none, none, none] (by decide +kernel) (Nat.le_of_ble_eq_true rfl) (fun _ => rfl) ?_
  unfold f_X4_next
  refine e_aload_n (pc := 0) dX4_next_0 rfl rfl ?_
  refine e_iconst (pc := 1) dX4_next_1 kc_0 ?_
  refine e_put (pc := 2) dX4_next_2 hw_X4_80 (fun _ => rfl) (fun _ => rfl) (fun w1 => ?_)
  refine e_iload_n (pc := 5) dX4_next_5 rfl rfl ?_
  refine e_i2l (pc := 6) dX4_next_6 ?_
  refine e_lconst (pc := 7) (v := 0) dX4_next_7 (by decide) ?_
  refine e_ldc2 (pc := 8) (v := 2) dX4_next_8 (a_in 1204 (by decide +kernel) rfl) ?_
  refine e_callS (pc := 11) (av := [.long a1.toInt64, .long (0 : Int64), .long (2 : Int64)]) (S := []) ok_X4_in ⟨Nat.le_of_ble_eq_true rfl, Nat.le_of_ble_eq_true rfl⟩ ht_X4_86 dX4_next_11 (s_X4_in a1.toInt64 (0 : Int64) (2 : Int64) w1) rfl rfl (Nat.le_of_ble_eq_true rfl) (fun x3 w2 => ?_)
  refine e_if_ne (pc := 14) (tgt := 19) dX4_next_14 (by decide) (fun _ => ?_) (fun _ => ?_)
  · refine e_aload_n (pc := 19) dX4_next_19 rfl rfl ?_
    refine e_callV (pc := 20) (av := []) (S := []) (c0 := 3) rfl rfl ok_X4_calledAll ⟨Nat.le_of_ble_eq_true rfl, Nat.le_of_ble_eq_true rfl⟩ hv_X4_288 dX4_next_20 (s_X4_calledAll a0 w2) rfl rfl (Nat.le_of_ble_eq_true rfl) (fun x5 w4 => ?_)
    refine e_istore_n (L' := [some (.ref a0), some (.int a1), some (.int x5), none, none]) (pc := 23) dX4_next_23 rfl (by decide) rfl ?_
    refine e_aload_n (pc := 24) dX4_next_24 rfl rfl ?_
    refine e_getI (pc := 25) dX4_next_25 hs_X4_107 (fun x6 => ?_)
    refine e_istore_n (L' := [some (.ref a0), some (.int a1), some (.int x5), some (.int x6), none]) (pc := 28) dX4_next_28 rfl (by decide) rfl ?_
    refine e_aload_n (pc := 29) dX4_next_29 rfl rfl ?_
    refine e_callV (pc := 30) (av := []) (S := []) (c0 := 3) rfl rfl ok_X4_mark ⟨Nat.le_of_ble_eq_true rfl, Nat.le_of_ble_eq_true rfl⟩ hv_X4_281 dX4_next_30 (s_X4_mark a0 w4) rfl rfl (Nat.le_of_ble_eq_true rfl) (fun _ w7 => ?_)
    refine e_aload_n (pc := 33) dX4_next_33 rfl rfl ?_
    refine e_callV (pc := 34) (av := []) (S := []) (c0 := 3) rfl rfl ok_X4_think ⟨Nat.le_of_ble_eq_true rfl, Nat.le_of_ble_eq_true rfl⟩ hv_X4_221 dX4_next_34 (s_X4_think a0 w7) rfl rfl (Nat.le_of_ble_eq_true rfl) (fun _ w8 => ?_)
    refine e_aload_n (pc := 37) dX4_next_37 rfl rfl ?_
    refine e_callV (pc := 38) (av := []) (S := []) (c0 := 3) rfl rfl ok_X4_dayOn ⟨Nat.le_of_ble_eq_true rfl, Nat.le_of_ble_eq_true rfl⟩ hv_X4_149 dX4_next_38 (s_X4_dayOn a0 w8) rfl rfl (Nat.le_of_ble_eq_true rfl) (fun _ w9 => ?_)
    refine e_iload_n (pc := 41) dX4_next_41 rfl rfl ?_
    refine e_if_ne (pc := 42) (tgt := 56) dX4_next_42 (by decide) (fun _ => ?_) (fun _ => ?_)
    · refine e_iload_n (pc := 56) dX4_next_56 rfl rfl ?_
      refine e_iconst (pc := 57) dX4_next_57 kc_1 ?_
      refine e_icmp_ne (pc := 58) (tgt := 72) dX4_next_58 (by decide) (fun _ => ?_) (fun _ => ?_)
      · refine e_aload_n (pc := 72) dX4_next_72 rfl rfl ?_
        refine e_callV (pc := 73) (av := []) (S := []) (c0 := 3) rfl rfl ok_X4_movedBits ⟨Nat.le_of_ble_eq_true rfl, Nat.le_of_ble_eq_true rfl⟩ hv_X4_291 dX4_next_73 (s_X4_movedBits a0 w9) rfl rfl (Nat.le_of_ble_eq_true rfl) (fun x11 w10 => ?_)
        refine e_istore (L' := [some (.ref a0), some (.int a1), some (.int x5), some (.int x6), some (.int x11)]) (pc := 76) dX4_next_76 (by decide) rfl ?_
        refine e_aload_n (pc := 78) dX4_next_78 rfl rfl ?_
        refine e_callV (pc := 79) (av := []) (S := []) (c0 := 3) rfl rfl ok_X4_again ⟨Nat.le_of_ble_eq_true rfl, Nat.le_of_ble_eq_true rfl⟩ hv_X4_227 dX4_next_79 (s_X4_again a0 w10) rfl rfl (Nat.le_of_ble_eq_true rfl) (fun _ w12 => ?_)
        refine e_iload (pc := 82) dX4_next_82 rfl ?_
        exact e_iret (pc := 84) dX4_next_84 rfl rfl
      · refine e_iload_n (pc := 61) dX4_next_61 rfl rfl ?_
        refine e_aload_n (pc := 62) dX4_next_62 rfl rfl ?_
        refine e_getI (pc := 63) dX4_next_63 hs_X4_107 (fun x13 => ?_)
        refine e_iconst (pc := 66) dX4_next_66 kc_m1 ?_
        refine e_ixor (pc := 67) dX4_next_67 ?_
        refine e_iand (pc := 68) dX4_next_68 ?_
        refine e_goto (pc := 69) (tgt := 76) dX4_next_69 (by decide) ?_
        refine e_istore (L' := [some (.ref a0), some (.int a1), some (.int x5), some (.int x6), some (.int (x6 &&& (x13 ^^^ (-1 : Int32))))]) (pc := 76) dX4_next_76 (by decide) rfl ?_
        refine e_aload_n (pc := 78) dX4_next_78 rfl rfl ?_
        refine e_callV (pc := 79) (av := []) (S := []) (c0 := 3) rfl rfl ok_X4_again ⟨Nat.le_of_ble_eq_true rfl, Nat.le_of_ble_eq_true rfl⟩ hv_X4_227 dX4_next_79 (s_X4_again a0 w9) rfl rfl (Nat.le_of_ble_eq_true rfl) (fun _ w14 => ?_)
        refine e_iload (pc := 82) dX4_next_82 rfl ?_
        exact e_iret (pc := 84) dX4_next_84 rfl rfl
    · refine e_aload_n (pc := 45) dX4_next_45 rfl rfl ?_
      refine e_callV (pc := 46) (av := []) (S := []) (c0 := 3) rfl rfl ok_X4_calledAll ⟨Nat.le_of_ble_eq_true rfl, Nat.le_of_ble_eq_true rfl⟩ hv_X4_288 dX4_next_46 (s_X4_calledAll a0 w9) rfl rfl (Nat.le_of_ble_eq_true rfl) (fun x16 w15 => ?_)
      refine e_iload_n (pc := 49) dX4_next_49 rfl rfl ?_
      refine e_iconst (pc := 50) dX4_next_50 kc_m1 ?_
      refine e_ixor (pc := 51) dX4_next_51 ?_
      refine e_iand (pc := 52) dX4_next_52 ?_
      refine e_goto (pc := 53) (tgt := 76) dX4_next_53 (by decide) ?_
      refine e_istore (L' := [some (.ref a0), some (.int a1), some (.int x5), some (.int x6), some (.int (x16 &&& (x5 ^^^ (-1 : Int32))))]) (pc := 76) dX4_next_76 (by decide) rfl ?_
      refine e_aload_n (pc := 78) dX4_next_78 rfl rfl ?_
      refine e_callV (pc := 79) (av := []) (S := []) (c0 := 3) rfl rfl ok_X4_again ⟨Nat.le_of_ble_eq_true rfl, Nat.le_of_ble_eq_true rfl⟩ hv_X4_227 dX4_next_79 (s_X4_again a0 w15) rfl rfl (Nat.le_of_ble_eq_true rfl) (fun _ w17 => ?_)
      refine e_iload (pc := 82) dX4_next_82 rfl ?_
      exact e_iret (pc := 84) dX4_next_84 rfl rfl
  · refine e_iconst (pc := 17) dX4_next_17 kc_m1 ?_
    exact e_iret (pc := 18) dX4_next_18 rfl rfl
def M_X4_meansThen : aM := (yX4_meansThen, cX4_meansThen, 4, (some .int), 6, 135)
theorem ok_X4_meansThen : a_okM M_X4_meansThen 2 := ⟨⟨by decide +kernel, by decide +kernel⟩, by decide +kernel, a_in 1258 (by decide +kernel) rfl, a_in 79 (by decide +kernel) rfl⟩
theorem dX4_meansThen_0 : decode M_X4_meansThen.2.1 0 = .ok (.aload_n 0, 1) := by decide +kernel
theorem dX4_meansThen_1 : decode M_X4_meansThen.2.1 1 = .ok (.iload_n 2, 1) := by decide +kernel
theorem dX4_meansThen_2 : decode M_X4_meansThen.2.1 2 = .ok (.invokevirtual 193, 3) := by decide +kernel
theorem dX4_meansThen_5 : decode M_X4_meansThen.2.1 5 = .ok (.aload_n 0, 1) := by decide +kernel
theorem dX4_meansThen_6 : decode M_X4_meansThen.2.1 6 = .ok (.getfield 25, 3) := by decide +kernel
theorem dX4_meansThen_9 : decode M_X4_meansThen.2.1 9 = .ok (.iload_n 1, 1) := by decide +kernel
theorem dX4_meansThen_10 : decode M_X4_meansThen.2.1 10 = .ok (.iaload, 1) := by decide +kernel
theorem dX4_meansThen_11 : decode M_X4_meansThen.2.1 11 = .ok (.istore_n 3, 1) := by decide +kernel
theorem dX4_meansThen_12 : decode M_X4_meansThen.2.1 12 = .ok (.aload_n 0, 1) := by decide +kernel
theorem dX4_meansThen_13 : decode M_X4_meansThen.2.1 13 = .ok (.invokevirtual 227, 3) := by decide +kernel
theorem dX4_meansThen_16 : decode M_X4_meansThen.2.1 16 = .ok (.iload_n 3, 1) := by decide +kernel
theorem dX4_meansThen_17 : decode M_X4_meansThen.2.1 17 = .ok (.ireturn, 1) := by decide +kernel
def f_X4_meansThen (a0 : Nat) (a1 : Int32) (a2 : Int32) (w : aW) : Option (Int32 × aW) :=
  cV 3 w a0 (bk (f_X4_goDays a0 a2 w) fun _ w1 =>
  (gR 3 w1 a0 7).bind fun r2 =>
  (gA w1 r2 a1).bind fun x3 =>
  cV 3 w1 a0 (bk (f_X4_again a0 w1) fun _ w4 =>
  some (x3, w4)))
theorem s_X4_meansThen (a0 : Nat) (a1 : Int32) (a2 : Int32) (w : aW) : Sp rvI M_X4_meansThen [.ref a0, .int a1, .int a2] w (f_X4_meansThen a0 a1 a2 w) := by
  refine e_entry [some (.ref a0), some (.int a1), some (.int a2), none] (by decide +kernel) (Nat.le_of_ble_eq_true rfl) (fun _ => rfl) ?_
  unfold f_X4_meansThen
  refine e_aload_n (pc := 0) dX4_meansThen_0 rfl rfl ?_
  refine e_iload_n (pc := 1) dX4_meansThen_1 rfl rfl ?_
  refine e_callV (pc := 2) (av := [.int a2]) (S := []) (c0 := 3) rfl rfl ok_X4_goDays ⟨Nat.le_of_ble_eq_true rfl, Nat.le_of_ble_eq_true rfl⟩ hv_X4_193 dX4_meansThen_2 (s_X4_goDays a0 a2 w) rfl rfl (Nat.le_of_ble_eq_true rfl) (fun _ w1 => ?_)
  refine e_aload_n (pc := 5) dX4_meansThen_5 rfl rfl ?_
  refine e_getR (pc := 6) dX4_meansThen_6 hs_X4_25 (fun r2 => ?_)
  refine e_iload_n (pc := 9) dX4_meansThen_9 rfl rfl ?_
  refine e_iald (pc := 10) dX4_meansThen_10 (fun x3 => ?_)
  refine e_istore_n (L' := [some (.ref a0), some (.int a1), some (.int a2), some (.int x3)]) (pc := 11) dX4_meansThen_11 rfl (by decide) rfl ?_
  refine e_aload_n (pc := 12) dX4_meansThen_12 rfl rfl ?_
  refine e_callV (pc := 13) (av := []) (S := []) (c0 := 3) rfl rfl ok_X4_again ⟨Nat.le_of_ble_eq_true rfl, Nat.le_of_ble_eq_true rfl⟩ hv_X4_227 dX4_meansThen_13 (s_X4_again a0 w1) rfl rfl (Nat.le_of_ble_eq_true rfl) (fun _ w4 => ?_)
  refine e_iload_n (pc := 16) dX4_meansThen_16 rfl rfl ?_
  exact e_iret (pc := 17) dX4_meansThen_17 rfl rfl
def M_X4_name : aM := (yX4_name, cX4_name, 8, (some .int), 7, 158)
theorem ok_X4_name : a_okM M_X4_name 3 := ⟨⟨by decide +kernel, by decide +kernel⟩, by decide +kernel, a_in 1253 (by decide +kernel) rfl, a_in 79 (by decide +kernel) rfl⟩
theorem dX4_name_0 : decode M_X4_name.2.1 0 = .ok (.aload_n 0, 1) := by decide +kernel
theorem dX4_name_1 : decode M_X4_name.2.1 1 = .ok (.iconst 0, 1) := by decide +kernel
theorem dX4_name_2 : decode M_X4_name.2.1 2 = .ok (.putfield 80, 3) := by decide +kernel
theorem dX4_name_5 : decode M_X4_name.2.1 5 = .ok (.iload_n 1, 1) := by decide +kernel
theorem dX4_name_6 : decode M_X4_name.2.1 6 = .ok (.invokestatic 188, 3) := by decide +kernel
theorem dX4_name_9 : decode M_X4_name.2.1 9 = .ok (.ifCond .eq 25, 3) := by decide +kernel
theorem dX4_name_12 : decode M_X4_name.2.1 12 = .ok (.iload_n 2, 1) := by decide +kernel
theorem dX4_name_13 : decode M_X4_name.2.1 13 = .ok (.i2l, 1) := by decide +kernel
theorem dX4_name_14 : decode M_X4_name.2.1 14 = .ok (.lconst 0, 1) := by decide +kernel
theorem dX4_name_15 : decode M_X4_name.2.1 15 = .ok (.ldc2_w 294, 3) := by decide +kernel
theorem dX4_name_18 : decode M_X4_name.2.1 18 = .ok (.invokestatic 86, 3) := by decide +kernel
theorem dX4_name_21 : decode M_X4_name.2.1 21 = .ok (.ifCond .eq 13, 3) := by decide +kernel
theorem dX4_name_24 : decode M_X4_name.2.1 24 = .ok (.iload_n 3, 1) := by decide +kernel
theorem dX4_name_25 : decode M_X4_name.2.1 25 = .ok (.i2l, 1) := by decide +kernel
theorem dX4_name_26 : decode M_X4_name.2.1 26 = .ok (.lconst 0, 1) := by decide +kernel
theorem dX4_name_27 : decode M_X4_name.2.1 27 = .ok (.lconst 1, 1) := by decide +kernel
theorem dX4_name_28 : decode M_X4_name.2.1 28 = .ok (.invokestatic 86, 3) := by decide +kernel
theorem dX4_name_31 : decode M_X4_name.2.1 31 = .ok (.ifCond .ne 5, 3) := by decide +kernel
theorem dX4_name_34 : decode M_X4_name.2.1 34 = .ok (.iconst (-1), 1) := by decide +kernel
theorem dX4_name_35 : decode M_X4_name.2.1 35 = .ok (.ireturn, 1) := by decide +kernel
theorem dX4_name_36 : decode M_X4_name.2.1 36 = .ok (.bipush (-4), 2) := by decide +kernel
theorem dX4_name_38 : decode M_X4_name.2.1 38 = .ok (.istore 4, 2) := by decide +kernel
theorem dX4_name_40 : decode M_X4_name.2.1 40 = .ok (.aload_n 0, 1) := by decide +kernel
theorem dX4_name_41 : decode M_X4_name.2.1 41 = .ok (.invokevirtual 221, 3) := by decide +kernel
theorem dX4_name_44 : decode M_X4_name.2.1 44 = .ok (.aload_n 0, 1) := by decide +kernel
theorem dX4_name_45 : decode M_X4_name.2.1 45 = .ok (.iload_n 1, 1) := by decide +kernel
theorem dX4_name_46 : decode M_X4_name.2.1 46 = .ok (.iload_n 2, 1) := by decide +kernel
theorem dX4_name_47 : decode M_X4_name.2.1 47 = .ok (.invokevirtual 296, 3) := by decide +kernel
theorem dX4_name_50 : decode M_X4_name.2.1 50 = .ok (.istore 5, 2) := by decide +kernel
theorem dX4_name_52 : decode M_X4_name.2.1 52 = .ok (.iconst 0, 1) := by decide +kernel
theorem dX4_name_53 : decode M_X4_name.2.1 53 = .ok (.istore 6, 2) := by decide +kernel
theorem dX4_name_55 : decode M_X4_name.2.1 55 = .ok (.iload 6, 2) := by decide +kernel
theorem dX4_name_57 : decode M_X4_name.2.1 57 = .ok (.aload_n 0, 1) := by decide +kernel
theorem dX4_name_58 : decode M_X4_name.2.1 58 = .ok (.getfield 92, 3) := by decide +kernel
theorem dX4_name_61 : decode M_X4_name.2.1 61 = .ok (.if_icmp .ge 66, 3) := by decide +kernel
theorem dX4_name_64 : decode M_X4_name.2.1 64 = .ok (.aload_n 0, 1) := by decide +kernel
theorem dX4_name_65 : decode M_X4_name.2.1 65 = .ok (.iload 6, 2) := by decide +kernel
theorem dX4_name_67 : decode M_X4_name.2.1 67 = .ok (.invokevirtual 114, 3) := by decide +kernel
theorem dX4_name_70 : decode M_X4_name.2.1 70 = .ok (.ifCond .eq 51, 3) := by decide +kernel
theorem dX4_name_73 : decode M_X4_name.2.1 73 = .ok (.aload_n 0, 1) := by decide +kernel
theorem dX4_name_74 : decode M_X4_name.2.1 74 = .ok (.getfield 22, 3) := by decide +kernel
theorem dX4_name_77 : decode M_X4_name.2.1 77 = .ok (.iload 6, 2) := by decide +kernel
theorem dX4_name_79 : decode M_X4_name.2.1 79 = .ok (.iload_n 1, 1) := by decide +kernel
theorem dX4_name_80 : decode M_X4_name.2.1 80 = .ok (.iastore, 1) := by decide +kernel
theorem dX4_name_81 : decode M_X4_name.2.1 81 = .ok (.aload_n 0, 1) := by decide +kernel
theorem dX4_name_82 : decode M_X4_name.2.1 82 = .ok (.iload_n 1, 1) := by decide +kernel
theorem dX4_name_83 : decode M_X4_name.2.1 83 = .ok (.iload_n 2, 1) := by decide +kernel
theorem dX4_name_84 : decode M_X4_name.2.1 84 = .ok (.invokevirtual 296, 3) := by decide +kernel
theorem dX4_name_87 : decode M_X4_name.2.1 87 = .ok (.istore 7, 2) := by decide +kernel
theorem dX4_name_89 : decode M_X4_name.2.1 89 = .ok (.iload 7, 2) := by decide +kernel
theorem dX4_name_91 : decode M_X4_name.2.1 91 = .ok (.iload 5, 2) := by decide +kernel
theorem dX4_name_93 : decode M_X4_name.2.1 93 = .ok (.if_icmp .le 8, 3) := by decide +kernel
theorem dX4_name_96 : decode M_X4_name.2.1 96 = .ok (.iload 6, 2) := by decide +kernel
theorem dX4_name_98 : decode M_X4_name.2.1 98 = .ok (.goto 5, 3) := by decide +kernel
theorem dX4_name_101 : decode M_X4_name.2.1 101 = .ok (.iload 4, 2) := by decide +kernel
theorem dX4_name_103 : decode M_X4_name.2.1 103 = .ok (.istore 4, 2) := by decide +kernel
theorem dX4_name_105 : decode M_X4_name.2.1 105 = .ok (.iload 7, 2) := by decide +kernel
theorem dX4_name_107 : decode M_X4_name.2.1 107 = .ok (.iload 5, 2) := by decide +kernel
theorem dX4_name_109 : decode M_X4_name.2.1 109 = .ok (.if_icmp .le 8, 3) := by decide +kernel
theorem dX4_name_112 : decode M_X4_name.2.1 112 = .ok (.iload 7, 2) := by decide +kernel
theorem dX4_name_114 : decode M_X4_name.2.1 114 = .ok (.goto 5, 3) := by decide +kernel
theorem dX4_name_117 : decode M_X4_name.2.1 117 = .ok (.iload 5, 2) := by decide +kernel
theorem dX4_name_119 : decode M_X4_name.2.1 119 = .ok (.istore 5, 2) := by decide +kernel
theorem dX4_name_121 : decode M_X4_name.2.1 121 = .ok (.iinc 6 1, 3) := by decide +kernel
theorem dX4_name_124 : decode M_X4_name.2.1 124 = .ok (.goto (-69), 3) := by decide +kernel
theorem dX4_name_127 : decode M_X4_name.2.1 127 = .ok (.iload 4, 2) := by decide +kernel
theorem dX4_name_129 : decode M_X4_name.2.1 129 = .ok (.ifCond .lt 7, 3) := by decide +kernel
theorem dX4_name_132 : decode M_X4_name.2.1 132 = .ok (.iload_n 3, 1) := by decide +kernel
theorem dX4_name_133 : decode M_X4_name.2.1 133 = .ok (.ifCond .ne 8, 3) := by decide +kernel
theorem dX4_name_136 : decode M_X4_name.2.1 136 = .ok (.iload 4, 2) := by decide +kernel
theorem dX4_name_138 : decode M_X4_name.2.1 138 = .ok (.goto 5, 3) := by decide +kernel
theorem dX4_name_141 : decode M_X4_name.2.1 141 = .ok (.iload 5, 2) := by decide +kernel
theorem dX4_name_143 : decode M_X4_name.2.1 143 = .ok (.ireturn, 1) := by decide +kernel
theorem hv_X4_296 : a_okV RX4 M_X4_meansThen 296 := ⟨a_in 1255 (by decide +kernel) rfl, a_in 1257 (by decide +kernel) rfl, a_in 60 (by decide +kernel) rfl⟩
def c_X4_name_103 (a0 : Nat) (a1 : Int32) (a2 : Int32) (a3 : Int32) (k55 : Int32 → Int32 → Int32 → aW → Option (Int32 × aW)) (b5 : Int32) (b6 : Int32) (b7 : Int32) (s0 : Int32) (w : aW) : Option (Int32 × aW) :=
  if b7 ≤ b5 then
    k55 s0 b5 (b6 + 1) w
  else
    k55 s0 b7 (b6 + 1) w
theorem t_X4_name_103 (a0 : Nat) (a1 : Int32) (a2 : Int32) (a3 : Int32) (k55 : Int32 → Int32 → Int32 → aW → Option (Int32 × aW)) (hk55 : ∀ (b4 : Int32) (b5 : Int32) (b6 : Int32) (w : aW), Ev rvI M_X4_name 55 [some (.ref a0), some (.int a1), some (.int a2), some (.int a3), some (.int b4), some (.int b5), some (.int b6), none] [] w (k55 b4 b5 b6 w)) (b5 : Int32) (b6 : Int32) (b7 : Int32) (s0 : Int32) (w : aW) : Ev rvI M_X4_name 103 [some (.ref a0), some (.int a1), some (.int a2), some (.int a3), none, some (.int b5), some (.int b6), some (.int b7)] [.int s0] w (c_X4_name_103 a0 a1 a2 a3 k55 b5 b6 b7 s0 w) := by
  unfold c_X4_name_103
  refine e_istore (L' := [some (.ref a0), some (.int a1), some (.int a2), some (.int a3), some (.int s0), some (.int b5), some (.int b6), some (.int b7)]) (pc := 103) dX4_name_103 (by decide) rfl ?_
  refine e_iload (pc := 105) dX4_name_105 rfl ?_
  refine e_iload (pc := 107) dX4_name_107 rfl ?_
  refine e_icmp_le (pc := 109) (tgt := 117) dX4_name_109 (by decide) (fun _ => ?_) (fun _ => ?_)
  · refine e_iload (pc := 117) dX4_name_117 rfl ?_
    refine e_istore (L' := [some (.ref a0), some (.int a1), some (.int a2), some (.int a3), some (.int s0), some (.int b5), some (.int b6), some (.int b7)]) (pc := 119) dX4_name_119 (by decide) rfl ?_
    refine e_iinc (L' := [some (.ref a0), some (.int a1), some (.int a2), some (.int a3), some (.int s0), some (.int b5), some (.int (b6 + 1)), some (.int b7)]) (pc := 121) (v := 1) dX4_name_121 (by decide) rfl kc_1 rfl ?_
    refine e_goto (pc := 124) (tgt := 55) dX4_name_124 (by decide) ?_
    refine e_forget (L2 := [some (.ref a0), some (.int a1), some (.int a2), some (.int a3), some (.int s0), some (.int b5), some (.int (b6 + 1)), none]) (And.intro rfl (And.intro rfl (And.intro rfl (And.intro rfl (And.intro rfl (And.intro rfl (And.intro rfl trivial))))))) ?_
    exact hk55 s0 b5 (b6 + 1) w
  · refine e_iload (pc := 112) dX4_name_112 rfl ?_
    refine e_goto (pc := 114) (tgt := 119) dX4_name_114 (by decide) ?_
    refine e_istore (L' := [some (.ref a0), some (.int a1), some (.int a2), some (.int a3), some (.int s0), some (.int b7), some (.int b6), some (.int b7)]) (pc := 119) dX4_name_119 (by decide) rfl ?_
    refine e_iinc (L' := [some (.ref a0), some (.int a1), some (.int a2), some (.int a3), some (.int s0), some (.int b7), some (.int (b6 + 1)), some (.int b7)]) (pc := 121) (v := 1) dX4_name_121 (by decide) rfl kc_1 rfl ?_
    refine e_goto (pc := 124) (tgt := 55) dX4_name_124 (by decide) ?_
    refine e_forget (L2 := [some (.ref a0), some (.int a1), some (.int a2), some (.int a3), some (.int s0), some (.int b7), some (.int (b6 + 1)), none]) (And.intro rfl (And.intro rfl (And.intro rfl (And.intro rfl (And.intro rfl (And.intro rfl (And.intro rfl trivial))))))) ?_
    exact hk55 s0 b7 (b6 + 1) w
def c_X4_name_55 (a0 : Nat) (a1 : Int32) (a2 : Int32) (a3 : Int32) (k55 : Int32 → Int32 → Int32 → aW → Option (Int32 × aW)) (b4 : Int32) (b5 : Int32) (b6 : Int32) (w : aW) : Option (Int32 × aW) :=
  (gI 3 w a0 0).bind fun x11 =>
  if x11 ≤ b6 then
    if b4 < (0 : Int32) then
      some (b4, w)
    else
      if ¬ a3 = (0 : Int32) then
        some (b5, w)
      else
        some (b4, w)
  else
    cV 3 w a0 (bk (f_X4_isFree a0 b6 w) fun x13 w12 =>
    if x13 = (0 : Int32) then
      k55 b4 b5 (b6 + 1) w12
    else
      (gR 3 w12 a0 5).bind fun r14 =>
      (sA w12 r14 b6 a1).bind fun w15 =>
      cV 3 w15 a0 (bk (f_X4_meansThen a0 a1 a2 w15) fun x17 w16 =>
      if x17 ≤ b5 then
        c_X4_name_103 a0 a1 a2 a3 k55 b5 b6 x17 b4 w16
      else
        c_X4_name_103 a0 a1 a2 a3 k55 b5 b6 x17 b6 w16))
theorem t_X4_name_55 (a0 : Nat) (a1 : Int32) (a2 : Int32) (a3 : Int32) (k55 : Int32 → Int32 → Int32 → aW → Option (Int32 × aW)) (hk55 : ∀ (b4 : Int32) (b5 : Int32) (b6 : Int32) (w : aW), Ev rvI M_X4_name 55 [some (.ref a0), some (.int a1), some (.int a2), some (.int a3), some (.int b4), some (.int b5), some (.int b6), none] [] w (k55 b4 b5 b6 w)) (b4 : Int32) (b5 : Int32) (b6 : Int32) (w : aW) : Ev rvI M_X4_name 55 [some (.ref a0), some (.int a1), some (.int a2), some (.int a3), some (.int b4), some (.int b5), some (.int b6), none] [] w (c_X4_name_55 a0 a1 a2 a3 k55 b4 b5 b6 w) := by
  unfold c_X4_name_55
  refine e_iload (pc := 55) dX4_name_55 rfl ?_
  refine e_aload_n (pc := 57) dX4_name_57 rfl rfl ?_
  refine e_getI (pc := 58) dX4_name_58 hs_X4_92 (fun x11 => ?_)
  refine e_icmp_ge (pc := 61) (tgt := 127) dX4_name_61 (by decide) (fun _ => ?_) (fun _ => ?_)
  · refine e_iload (pc := 127) dX4_name_127 rfl ?_
    refine e_if_lt (pc := 129) (tgt := 136) dX4_name_129 (by decide) (fun _ => ?_) (fun _ => ?_)
    · refine e_iload (pc := 136) dX4_name_136 rfl ?_
      refine e_goto (pc := 138) (tgt := 143) dX4_name_138 (by decide) ?_
      exact e_iret (pc := 143) dX4_name_143 rfl rfl
    · refine e_iload_n (pc := 132) dX4_name_132 rfl rfl ?_
      refine e_if_ne (pc := 133) (tgt := 141) dX4_name_133 (by decide) (fun _ => ?_) (fun _ => ?_)
      · refine e_iload (pc := 141) dX4_name_141 rfl ?_
        exact e_iret (pc := 143) dX4_name_143 rfl rfl
      · refine e_iload (pc := 136) dX4_name_136 rfl ?_
        refine e_goto (pc := 138) (tgt := 143) dX4_name_138 (by decide) ?_
        exact e_iret (pc := 143) dX4_name_143 rfl rfl
  · refine e_aload_n (pc := 64) dX4_name_64 rfl rfl ?_
    refine e_iload (pc := 65) dX4_name_65 rfl ?_
    refine e_callV (pc := 67) (av := [.int b6]) (S := []) (c0 := 3) rfl rfl ok_X4_isFree ⟨Nat.le_of_ble_eq_true rfl, Nat.le_of_ble_eq_true rfl⟩ hv_X4_114 dX4_name_67 (s_X4_isFree a0 b6 w) rfl rfl (Nat.le_of_ble_eq_true rfl) (fun x13 w12 => ?_)
    refine e_if_eq (pc := 70) (tgt := 121) dX4_name_70 (by decide) (fun _ => ?_) (fun _ => ?_)
    · refine e_iinc (L' := [some (.ref a0), some (.int a1), some (.int a2), some (.int a3), some (.int b4), some (.int b5), some (.int (b6 + 1)), none]) (pc := 121) (v := 1) dX4_name_121 (by decide) rfl kc_1 rfl ?_
      refine e_goto (pc := 124) (tgt := 55) dX4_name_124 (by decide) ?_
      exact hk55 b4 b5 (b6 + 1) w12
    · refine e_aload_n (pc := 73) dX4_name_73 rfl rfl ?_
      refine e_getR (pc := 74) dX4_name_74 hs_X4_22 (fun r14 => ?_)
      refine e_iload (pc := 77) dX4_name_77 rfl ?_
      refine e_iload_n (pc := 79) dX4_name_79 rfl rfl ?_
      refine e_iast (pc := 80) dX4_name_80 (fun w15 => ?_)
      refine e_aload_n (pc := 81) dX4_name_81 rfl rfl ?_
      refine e_iload_n (pc := 82) dX4_name_82 rfl rfl ?_
      refine e_iload_n (pc := 83) dX4_name_83 rfl rfl ?_
      refine e_callV (pc := 84) (av := [.int a1, .int a2]) (S := []) (c0 := 3) rfl rfl ok_X4_meansThen ⟨Nat.le_of_ble_eq_true rfl, Nat.le_of_ble_eq_true rfl⟩ hv_X4_296 dX4_name_84 (s_X4_meansThen a0 a1 a2 w15) rfl rfl (Nat.le_of_ble_eq_true rfl) (fun x17 w16 => ?_)
      refine e_istore (L' := [some (.ref a0), some (.int a1), some (.int a2), some (.int a3), some (.int b4), some (.int b5), some (.int b6), some (.int x17)]) (pc := 87) dX4_name_87 (by decide) rfl ?_
      refine e_iload (pc := 89) dX4_name_89 rfl ?_
      refine e_iload (pc := 91) dX4_name_91 rfl ?_
      refine e_icmp_le (pc := 93) (tgt := 101) dX4_name_93 (by decide) (fun _ => ?_) (fun _ => ?_)
      · refine e_iload (pc := 101) dX4_name_101 rfl ?_
        refine e_forget (L2 := [some (.ref a0), some (.int a1), some (.int a2), some (.int a3), none, some (.int b5), some (.int b6), some (.int x17)]) (And.intro rfl (And.intro rfl (And.intro rfl (And.intro rfl (And.intro rfl (And.intro rfl (And.intro rfl trivial))))))) ?_
        exact t_X4_name_103 a0 a1 a2 a3 k55 hk55 b5 b6 x17 b4 w16
      · refine e_iload (pc := 96) dX4_name_96 rfl ?_
        refine e_goto (pc := 98) (tgt := 103) dX4_name_98 (by decide) ?_
        refine e_forget (L2 := [some (.ref a0), some (.int a1), some (.int a2), some (.int a3), none, some (.int b5), some (.int b6), some (.int x17)]) (And.intro rfl (And.intro rfl (And.intro rfl (And.intro rfl (And.intro rfl (And.intro rfl (And.intro rfl trivial))))))) ?_
        exact t_X4_name_103 a0 a1 a2 a3 k55 hk55 b5 b6 x17 b6 w16
def f_X4_name (a0 : Nat) (a1 : Int32) (a2 : Int32) (a3 : Int32) (w : aW) : Option (Int32 × aW) :=
  (sF 3 w a0 19 (.int (0 : Int32))).bind fun w1 =>
  bk (f_X4_isPerson a1 w1) fun x3 w2 =>
  if x3 = (0 : Int32) then
    some ((-1 : Int32), w2)
  else
    bk (f_X4_in a2.toInt64 (0 : Int64) (30 : Int64) w2) fun x5 w4 =>
    if x5 = (0 : Int32) then
      some ((-1 : Int32), w4)
    else
      bk (f_X4_in a3.toInt64 (0 : Int64) (1 : Int64) w4) fun x7 w6 =>
      if ¬ x7 = (0 : Int32) then
        cV 3 w6 a0 (bk (f_X4_think a0 w6) fun _ w8 =>
        cV 3 w8 a0 (bk (f_X4_meansThen a0 a1 a2 w8) fun x10 w9 =>
        loop4 (c_X4_name_55 a0 a1 a2 a3) a_fuel (-4 : Int32) x10 (0 : Int32) w9))
      else
        some ((-1 : Int32), w6)
theorem s_X4_name (a0 : Nat) (a1 : Int32) (a2 : Int32) (a3 : Int32) (w : aW) : Sp rvI M_X4_name [.ref a0, .int a1, .int a2, .int a3] w (f_X4_name a0 a1 a2 a3 w) := by
  refine e_entry [some (.ref a0), some (.int a1), some (.int a2), some (.int a3), none, none, none, none] (by decide +kernel) (Nat.le_of_ble_eq_true rfl) (fun _ => rfl) ?_
  unfold f_X4_name
  refine e_aload_n (pc := 0) dX4_name_0 rfl rfl ?_
  refine e_iconst (pc := 1) dX4_name_1 kc_0 ?_
  refine e_put (pc := 2) dX4_name_2 hw_X4_80 (fun _ => rfl) (fun _ => rfl) (fun w1 => ?_)
  refine e_iload_n (pc := 5) dX4_name_5 rfl rfl ?_
  refine e_callS (pc := 6) (av := [.int a1]) (S := []) ok_X4_isPerson ⟨Nat.le_of_ble_eq_true rfl, Nat.le_of_ble_eq_true rfl⟩ ht_X4_188 dX4_name_6 (s_X4_isPerson a1 w1) rfl rfl (Nat.le_of_ble_eq_true rfl) (fun x3 w2 => ?_)
  refine e_if_eq (pc := 9) (tgt := 34) dX4_name_9 (by decide) (fun _ => ?_) (fun _ => ?_)
  · refine e_iconst (pc := 34) dX4_name_34 kc_m1 ?_
    exact e_iret (pc := 35) dX4_name_35 rfl rfl
  · refine e_iload_n (pc := 12) dX4_name_12 rfl rfl ?_
    refine e_i2l (pc := 13) dX4_name_13 ?_
    refine e_lconst (pc := 14) (v := 0) dX4_name_14 (by decide) ?_
    refine e_ldc2 (pc := 15) (v := 30) dX4_name_15 (a_in 1254 (by decide +kernel) rfl) ?_
    refine e_callS (pc := 18) (av := [.long a2.toInt64, .long (0 : Int64), .long (30 : Int64)]) (S := []) ok_X4_in ⟨Nat.le_of_ble_eq_true rfl, Nat.le_of_ble_eq_true rfl⟩ ht_X4_86 dX4_name_18 (s_X4_in a2.toInt64 (0 : Int64) (30 : Int64) w2) rfl rfl (Nat.le_of_ble_eq_true rfl) (fun x5 w4 => ?_)
    refine e_if_eq (pc := 21) (tgt := 34) dX4_name_21 (by decide) (fun _ => ?_) (fun _ => ?_)
    · refine e_iconst (pc := 34) dX4_name_34 kc_m1 ?_
      exact e_iret (pc := 35) dX4_name_35 rfl rfl
    · refine e_iload_n (pc := 24) dX4_name_24 rfl rfl ?_
      refine e_i2l (pc := 25) dX4_name_25 ?_
      refine e_lconst (pc := 26) (v := 0) dX4_name_26 (by decide) ?_
      refine e_lconst (pc := 27) (v := 1) dX4_name_27 (by decide) ?_
      refine e_callS (pc := 28) (av := [.long a3.toInt64, .long (0 : Int64), .long (1 : Int64)]) (S := []) ok_X4_in ⟨Nat.le_of_ble_eq_true rfl, Nat.le_of_ble_eq_true rfl⟩ ht_X4_86 dX4_name_28 (s_X4_in a3.toInt64 (0 : Int64) (1 : Int64) w4) rfl rfl (Nat.le_of_ble_eq_true rfl) (fun x7 w6 => ?_)
      refine e_if_ne (pc := 31) (tgt := 36) dX4_name_31 (by decide) (fun _ => ?_) (fun _ => ?_)
      · refine e_bipush (pc := 36) dX4_name_36 kb_m4 ?_
        refine e_istore (L' := [some (.ref a0), some (.int a1), some (.int a2), some (.int a3), some (.int (-4 : Int32)), none, none, none]) (pc := 38) dX4_name_38 (by decide) rfl ?_
        refine e_aload_n (pc := 40) dX4_name_40 rfl rfl ?_
        refine e_callV (pc := 41) (av := []) (S := []) (c0 := 3) rfl rfl ok_X4_think ⟨Nat.le_of_ble_eq_true rfl, Nat.le_of_ble_eq_true rfl⟩ hv_X4_221 dX4_name_41 (s_X4_think a0 w6) rfl rfl (Nat.le_of_ble_eq_true rfl) (fun _ w8 => ?_)
        refine e_aload_n (pc := 44) dX4_name_44 rfl rfl ?_
        refine e_iload_n (pc := 45) dX4_name_45 rfl rfl ?_
        refine e_iload_n (pc := 46) dX4_name_46 rfl rfl ?_
        refine e_callV (pc := 47) (av := [.int a1, .int a2]) (S := []) (c0 := 3) rfl rfl ok_X4_meansThen ⟨Nat.le_of_ble_eq_true rfl, Nat.le_of_ble_eq_true rfl⟩ hv_X4_296 dX4_name_47 (s_X4_meansThen a0 a1 a2 w8) rfl rfl (Nat.le_of_ble_eq_true rfl) (fun x10 w9 => ?_)
        refine e_istore (L' := [some (.ref a0), some (.int a1), some (.int a2), some (.int a3), some (.int (-4 : Int32)), some (.int x10), none, none]) (pc := 50) dX4_name_50 (by decide) rfl ?_
        refine e_iconst (pc := 52) dX4_name_52 kc_0 ?_
        refine e_istore (L' := [some (.ref a0), some (.int a1), some (.int a2), some (.int a3), some (.int (-4 : Int32)), some (.int x10), some (.int (0 : Int32)), none]) (pc := 53) dX4_name_53 (by decide) rfl ?_
        exact e_loop4 (L := fun b4 b5 b6 => [some (.ref a0), some (.int a1), some (.int a2), some (.int a3), some (.int b4), some (.int b5), some (.int b6), none]) (S := fun b4 b5 b6 => []) (fun kf hkf => t_X4_name_55 a0 a1 a2 a3  kf hkf) _ (-4 : Int32) x10 (0 : Int32) w9
      · refine e_iconst (pc := 34) dX4_name_34 kc_m1 ?_
        exact e_iret (pc := 35) dX4_name_35 rfl rfl
def M_X4_allLive : aM := (yX4_allLive, cX4_allLive, 4, (some .boolean), 6, 135)
theorem ok_X4_allLive : a_okM M_X4_allLive 2 := ⟨⟨by decide +kernel, by decide +kernel⟩, by decide +kernel, a_in 1275 (by decide +kernel) rfl, a_in 79 (by decide +kernel) rfl⟩
theorem dX4_allLive_0 : decode M_X4_allLive.2.1 0 = .ok (.aload_n 0, 1) := by decide +kernel
theorem dX4_allLive_1 : decode M_X4_allLive.2.1 1 = .ok (.iload_n 2, 1) := by decide +kernel
theorem dX4_allLive_2 : decode M_X4_allLive.2.1 2 = .ok (.invokevirtual 193, 3) := by decide +kernel
theorem dX4_allLive_5 : decode M_X4_allLive.2.1 5 = .ok (.iload_n 1, 1) := by decide +kernel
theorem dX4_allLive_6 : decode M_X4_allLive.2.1 6 = .ok (.aload_n 0, 1) := by decide +kernel
theorem dX4_allLive_7 : decode M_X4_allLive.2.1 7 = .ok (.getfield 107, 3) := by decide +kernel
theorem dX4_allLive_10 : decode M_X4_allLive.2.1 10 = .ok (.iconst (-1), 1) := by decide +kernel
theorem dX4_allLive_11 : decode M_X4_allLive.2.1 11 = .ok (.ixor, 1) := by decide +kernel
theorem dX4_allLive_12 : decode M_X4_allLive.2.1 12 = .ok (.iand, 1) := by decide +kernel
theorem dX4_allLive_13 : decode M_X4_allLive.2.1 13 = .ok (.ifCond .ne 7, 3) := by decide +kernel
theorem dX4_allLive_16 : decode M_X4_allLive.2.1 16 = .ok (.iconst 1, 1) := by decide +kernel
theorem dX4_allLive_17 : decode M_X4_allLive.2.1 17 = .ok (.goto 4, 3) := by decide +kernel
theorem dX4_allLive_20 : decode M_X4_allLive.2.1 20 = .ok (.iconst 0, 1) := by decide +kernel
theorem dX4_allLive_21 : decode M_X4_allLive.2.1 21 = .ok (.istore_n 3, 1) := by decide +kernel
theorem dX4_allLive_22 : decode M_X4_allLive.2.1 22 = .ok (.aload_n 0, 1) := by decide +kernel
theorem dX4_allLive_23 : decode M_X4_allLive.2.1 23 = .ok (.invokevirtual 227, 3) := by decide +kernel
theorem dX4_allLive_26 : decode M_X4_allLive.2.1 26 = .ok (.iload_n 3, 1) := by decide +kernel
theorem dX4_allLive_27 : decode M_X4_allLive.2.1 27 = .ok (.ireturn, 1) := by decide +kernel
def f_X4_allLive (a0 : Nat) (a1 : Int32) (a2 : Int32) (w : aW) : Option (Int32 × aW) :=
  cV 3 w a0 (bk (f_X4_goDays a0 a2 w) fun _ w1 =>
  (gI 3 w1 a0 6).bind fun x2 =>
  if ¬ (a1 &&& (x2 ^^^ (-1 : Int32))) = (0 : Int32) then
    cV 3 w1 a0 (bk (f_X4_again a0 w1) fun _ w3 =>
    some ((0 : Int32), w3))
  else
    cV 3 w1 a0 (bk (f_X4_again a0 w1) fun _ w4 =>
    some ((1 : Int32), w4)))
theorem s_X4_allLive (a0 : Nat) (a1 : Int32) (a2 : Int32) (w : aW) : Sp rvI M_X4_allLive [.ref a0, .int a1, .int a2] w (f_X4_allLive a0 a1 a2 w) := by
  refine e_entry [some (.ref a0), some (.int a1), some (.int a2), none] (by decide +kernel) (Nat.le_of_ble_eq_true rfl) (fun _ => rfl) ?_
  unfold f_X4_allLive
  refine e_aload_n (pc := 0) dX4_allLive_0 rfl rfl ?_
  refine e_iload_n (pc := 1) dX4_allLive_1 rfl rfl ?_
  refine e_callV (pc := 2) (av := [.int a2]) (S := []) (c0 := 3) rfl rfl ok_X4_goDays ⟨Nat.le_of_ble_eq_true rfl, Nat.le_of_ble_eq_true rfl⟩ hv_X4_193 dX4_allLive_2 (s_X4_goDays a0 a2 w) rfl rfl (Nat.le_of_ble_eq_true rfl) (fun _ w1 => ?_)
  refine e_iload_n (pc := 5) dX4_allLive_5 rfl rfl ?_
  refine e_aload_n (pc := 6) dX4_allLive_6 rfl rfl ?_
  refine e_getI (pc := 7) dX4_allLive_7 hs_X4_107 (fun x2 => ?_)
  refine e_iconst (pc := 10) dX4_allLive_10 kc_m1 ?_
  refine e_ixor (pc := 11) dX4_allLive_11 ?_
  refine e_iand (pc := 12) dX4_allLive_12 ?_
  refine e_if_ne (pc := 13) (tgt := 20) dX4_allLive_13 (by decide) (fun _ => ?_) (fun _ => ?_)
  · refine e_iconst (pc := 20) dX4_allLive_20 kc_0 ?_
    refine e_istore_n (L' := [some (.ref a0), some (.int a1), some (.int a2), some (.int (0 : Int32))]) (pc := 21) dX4_allLive_21 rfl (by decide) rfl ?_
    refine e_aload_n (pc := 22) dX4_allLive_22 rfl rfl ?_
    refine e_callV (pc := 23) (av := []) (S := []) (c0 := 3) rfl rfl ok_X4_again ⟨Nat.le_of_ble_eq_true rfl, Nat.le_of_ble_eq_true rfl⟩ hv_X4_227 dX4_allLive_23 (s_X4_again a0 w1) rfl rfl (Nat.le_of_ble_eq_true rfl) (fun _ w3 => ?_)
    refine e_iload_n (pc := 26) dX4_allLive_26 rfl rfl ?_
    exact e_iret (pc := 27) dX4_allLive_27 rfl (a_nb (by decide))
  · refine e_iconst (pc := 16) dX4_allLive_16 kc_1 ?_
    refine e_goto (pc := 17) (tgt := 21) dX4_allLive_17 (by decide) ?_
    refine e_istore_n (L' := [some (.ref a0), some (.int a1), some (.int a2), some (.int (1 : Int32))]) (pc := 21) dX4_allLive_21 rfl (by decide) rfl ?_
    refine e_aload_n (pc := 22) dX4_allLive_22 rfl rfl ?_
    refine e_callV (pc := 23) (av := []) (S := []) (c0 := 3) rfl rfl ok_X4_again ⟨Nat.le_of_ble_eq_true rfl, Nat.le_of_ble_eq_true rfl⟩ hv_X4_227 dX4_allLive_23 (s_X4_again a0 w1) rfl rfl (Nat.le_of_ble_eq_true rfl) (fun _ w4 => ?_)
    refine e_iload_n (pc := 26) dX4_allLive_26 rfl rfl ?_
    exact e_iret (pc := 27) dX4_allLive_27 rfl (a_nb (by decide))
def M_X4_callAll : aM := (yX4_callAll, cX4_callAll, 4, none, 1, 21)
theorem ok_X4_callAll : a_okM M_X4_callAll 2 := ⟨⟨by decide +kernel, by decide +kernel⟩, by decide +kernel, a_in 1271 (by decide +kernel) rfl, a_in 79 (by decide +kernel) rfl⟩
theorem dX4_callAll_0 : decode M_X4_callAll.2.1 0 = .ok (.iconst 0, 1) := by decide +kernel
theorem dX4_callAll_1 : decode M_X4_callAll.2.1 1 = .ok (.istore_n 3, 1) := by decide +kernel
theorem dX4_callAll_2 : decode M_X4_callAll.2.1 2 = .ok (.iload_n 3, 1) := by decide +kernel
theorem dX4_callAll_3 : decode M_X4_callAll.2.1 3 = .ok (.aload_n 0, 1) := by decide +kernel
theorem dX4_callAll_4 : decode M_X4_callAll.2.1 4 = .ok (.getfield 92, 3) := by decide +kernel
theorem dX4_callAll_7 : decode M_X4_callAll.2.1 7 = .ok (.if_icmp .ge 33, 3) := by decide +kernel
theorem dX4_callAll_10 : decode M_X4_callAll.2.1 10 = .ok (.aload_n 0, 1) := by decide +kernel
theorem dX4_callAll_11 : decode M_X4_callAll.2.1 11 = .ok (.getfield 22, 3) := by decide +kernel
theorem dX4_callAll_14 : decode M_X4_callAll.2.1 14 = .ok (.iload_n 3, 1) := by decide +kernel
theorem dX4_callAll_15 : decode M_X4_callAll.2.1 15 = .ok (.iload_n 1, 1) := by decide +kernel
theorem dX4_callAll_16 : decode M_X4_callAll.2.1 16 = .ok (.iload_n 3, 1) := by decide +kernel
theorem dX4_callAll_17 : decode M_X4_callAll.2.1 17 = .ok (.invokestatic 110, 3) := by decide +kernel
theorem dX4_callAll_20 : decode M_X4_callAll.2.1 20 = .ok (.ifCond .eq 7, 3) := by decide +kernel
theorem dX4_callAll_23 : decode M_X4_callAll.2.1 23 = .ok (.iload_n 2, 1) := by decide +kernel
theorem dX4_callAll_24 : decode M_X4_callAll.2.1 24 = .ok (.goto 9, 3) := by decide +kernel
theorem dX4_callAll_27 : decode M_X4_callAll.2.1 27 = .ok (.aload_n 0, 1) := by decide +kernel
theorem dX4_callAll_28 : decode M_X4_callAll.2.1 28 = .ok (.getfield 22, 3) := by decide +kernel
theorem dX4_callAll_31 : decode M_X4_callAll.2.1 31 = .ok (.iload_n 3, 1) := by decide +kernel
theorem dX4_callAll_32 : decode M_X4_callAll.2.1 32 = .ok (.iaload, 1) := by decide +kernel
theorem dX4_callAll_33 : decode M_X4_callAll.2.1 33 = .ok (.iastore, 1) := by decide +kernel
theorem dX4_callAll_34 : decode M_X4_callAll.2.1 34 = .ok (.iinc 3 1, 3) := by decide +kernel
theorem dX4_callAll_37 : decode M_X4_callAll.2.1 37 = .ok (.goto (-35), 3) := by decide +kernel
theorem dX4_callAll_40 : decode M_X4_callAll.2.1 40 = .ok (.return_, 1) := by decide +kernel
def c_X4_callAll_2 (a0 : Nat) (a1 : Int32) (a2 : Int32) (k2 : Int32 → aW → Option (Unit × aW)) (b3 : Int32) (w : aW) : Option (Unit × aW) :=
  (gI 3 w a0 0).bind fun x1 =>
  if x1 ≤ b3 then
    some ((), w)
  else
    (gR 3 w a0 5).bind fun r2 =>
    bk (f_X4_hasBit a1 b3 w) fun x4 w3 =>
    if x4 = (0 : Int32) then
      (gR 3 w3 a0 5).bind fun r5 =>
      (gA w3 r5 b3).bind fun x6 =>
      (sA w3 r2 b3 x6).bind fun w7 =>
      k2 (b3 + 1) w7
    else
      (sA w3 r2 b3 a2).bind fun w8 =>
      k2 (b3 + 1) w8
theorem t_X4_callAll_2 (a0 : Nat) (a1 : Int32) (a2 : Int32) (k2 : Int32 → aW → Option (Unit × aW)) (hk2 : ∀ (b3 : Int32) (w : aW), Ev rvV M_X4_callAll 2 [some (.ref a0), some (.int a1), some (.int a2), some (.int b3)] [] w (k2 b3 w)) (b3 : Int32) (w : aW) : Ev rvV M_X4_callAll 2 [some (.ref a0), some (.int a1), some (.int a2), some (.int b3)] [] w (c_X4_callAll_2 a0 a1 a2 k2 b3 w) := by
  unfold c_X4_callAll_2
  refine e_iload_n (pc := 2) dX4_callAll_2 rfl rfl ?_
  refine e_aload_n (pc := 3) dX4_callAll_3 rfl rfl ?_
  refine e_getI (pc := 4) dX4_callAll_4 hs_X4_92 (fun x1 => ?_)
  refine e_icmp_ge (pc := 7) (tgt := 40) dX4_callAll_7 (by decide) (fun _ => ?_) (fun _ => ?_)
  · exact e_vret (pc := 40) dX4_callAll_40 rfl
  · refine e_aload_n (pc := 10) dX4_callAll_10 rfl rfl ?_
    refine e_getR (pc := 11) dX4_callAll_11 hs_X4_22 (fun r2 => ?_)
    refine e_iload_n (pc := 14) dX4_callAll_14 rfl rfl ?_
    refine e_iload_n (pc := 15) dX4_callAll_15 rfl rfl ?_
    refine e_iload_n (pc := 16) dX4_callAll_16 rfl rfl ?_
    refine e_callS (pc := 17) (av := [.int a1, .int b3]) (S := [.int b3, .ref r2]) ok_X4_hasBit ⟨Nat.le_of_ble_eq_true rfl, Nat.le_of_ble_eq_true rfl⟩ ht_X4_110 dX4_callAll_17 (s_X4_hasBit a1 b3 w) rfl rfl (Nat.le_of_ble_eq_true rfl) (fun x4 w3 => ?_)
    refine e_if_eq (pc := 20) (tgt := 27) dX4_callAll_20 (by decide) (fun _ => ?_) (fun _ => ?_)
    · refine e_aload_n (pc := 27) dX4_callAll_27 rfl rfl ?_
      refine e_getR (pc := 28) dX4_callAll_28 hs_X4_22 (fun r5 => ?_)
      refine e_iload_n (pc := 31) dX4_callAll_31 rfl rfl ?_
      refine e_iald (pc := 32) dX4_callAll_32 (fun x6 => ?_)
      refine e_iast (pc := 33) dX4_callAll_33 (fun w7 => ?_)
      refine e_iinc (L' := [some (.ref a0), some (.int a1), some (.int a2), some (.int (b3 + 1))]) (pc := 34) (v := 1) dX4_callAll_34 (by decide) rfl kc_1 rfl ?_
      refine e_goto (pc := 37) (tgt := 2) dX4_callAll_37 (by decide) ?_
      exact hk2 (b3 + 1) w7
    · refine e_iload_n (pc := 23) dX4_callAll_23 rfl rfl ?_
      refine e_goto (pc := 24) (tgt := 33) dX4_callAll_24 (by decide) ?_
      refine e_iast (pc := 33) dX4_callAll_33 (fun w8 => ?_)
      refine e_iinc (L' := [some (.ref a0), some (.int a1), some (.int a2), some (.int (b3 + 1))]) (pc := 34) (v := 1) dX4_callAll_34 (by decide) rfl kc_1 rfl ?_
      refine e_goto (pc := 37) (tgt := 2) dX4_callAll_37 (by decide) ?_
      exact hk2 (b3 + 1) w8
def f_X4_callAll (a0 : Nat) (a1 : Int32) (a2 : Int32) (w : aW) : Option (Unit × aW) :=
  loop2 (c_X4_callAll_2 a0 a1 a2) a_fuel (0 : Int32) w
theorem s_X4_callAll (a0 : Nat) (a1 : Int32) (a2 : Int32) (w : aW) : Sp rvV M_X4_callAll [.ref a0, .int a1, .int a2] w (f_X4_callAll a0 a1 a2 w) := by
  refine e_entry [some (.ref a0), some (.int a1), some (.int a2), none] (by decide +kernel) (Nat.le_of_ble_eq_true rfl) (fun _ => rfl) ?_
  unfold f_X4_callAll
  refine e_iconst (pc := 0) dX4_callAll_0 kc_0 ?_
  refine e_istore_n (L' := [some (.ref a0), some (.int a1), some (.int a2), some (.int (0 : Int32))]) (pc := 1) dX4_callAll_1 rfl (by decide) rfl ?_
  exact e_loop2 (L := fun b3 => [some (.ref a0), some (.int a1), some (.int a2), some (.int b3)]) (S := fun b3 => []) (fun kf hkf => t_X4_callAll_2 a0 a1 a2  kf hkf) _ (0 : Int32) w
def M_X4_cover : aM := (yX4_cover, cX4_cover, 8, (some .int), 7, 158)
theorem ok_X4_cover : a_okM M_X4_cover 2 := ⟨⟨by decide +kernel, by decide +kernel⟩, by decide +kernel, a_in 1262 (by decide +kernel) rfl, a_in 79 (by decide +kernel) rfl⟩
theorem dX4_cover_0 : decode M_X4_cover.2.1 0 = .ok (.aload_n 0, 1) := by decide +kernel
theorem dX4_cover_1 : decode M_X4_cover.2.1 1 = .ok (.iconst 0, 1) := by decide +kernel
theorem dX4_cover_2 : decode M_X4_cover.2.1 2 = .ok (.putfield 80, 3) := by decide +kernel
theorem dX4_cover_5 : decode M_X4_cover.2.1 5 = .ok (.iload_n 1, 1) := by decide +kernel
theorem dX4_cover_6 : decode M_X4_cover.2.1 6 = .ok (.invokestatic 188, 3) := by decide +kernel
theorem dX4_cover_9 : decode M_X4_cover.2.1 9 = .ok (.ifCond .eq 15, 3) := by decide +kernel
theorem dX4_cover_12 : decode M_X4_cover.2.1 12 = .ok (.iload_n 2, 1) := by decide +kernel
theorem dX4_cover_13 : decode M_X4_cover.2.1 13 = .ok (.i2l, 1) := by decide +kernel
theorem dX4_cover_14 : decode M_X4_cover.2.1 14 = .ok (.lconst 0, 1) := by decide +kernel
theorem dX4_cover_15 : decode M_X4_cover.2.1 15 = .ok (.ldc2_w 299, 3) := by decide +kernel
theorem dX4_cover_18 : decode M_X4_cover.2.1 18 = .ok (.invokestatic 86, 3) := by decide +kernel
theorem dX4_cover_21 : decode M_X4_cover.2.1 21 = .ok (.ifCond .ne 5, 3) := by decide +kernel
theorem dX4_cover_24 : decode M_X4_cover.2.1 24 = .ok (.iconst (-1), 1) := by decide +kernel
theorem dX4_cover_25 : decode M_X4_cover.2.1 25 = .ok (.ireturn, 1) := by decide +kernel
theorem dX4_cover_26 : decode M_X4_cover.2.1 26 = .ok (.bipush (-4), 2) := by decide +kernel
theorem dX4_cover_28 : decode M_X4_cover.2.1 28 = .ok (.istore_n 3, 1) := by decide +kernel
theorem dX4_cover_29 : decode M_X4_cover.2.1 29 = .ok (.aload_n 0, 1) := by decide +kernel
theorem dX4_cover_30 : decode M_X4_cover.2.1 30 = .ok (.invokevirtual 301, 3) := by decide +kernel
theorem dX4_cover_33 : decode M_X4_cover.2.1 33 = .ok (.istore 4, 2) := by decide +kernel
theorem dX4_cover_35 : decode M_X4_cover.2.1 35 = .ok (.aload_n 0, 1) := by decide +kernel
theorem dX4_cover_36 : decode M_X4_cover.2.1 36 = .ok (.invokevirtual 221, 3) := by decide +kernel
theorem dX4_cover_39 : decode M_X4_cover.2.1 39 = .ok (.iconst 0, 1) := by decide +kernel
theorem dX4_cover_40 : decode M_X4_cover.2.1 40 = .ok (.istore 5, 2) := by decide +kernel
theorem dX4_cover_42 : decode M_X4_cover.2.1 42 = .ok (.iload 5, 2) := by decide +kernel
theorem dX4_cover_44 : decode M_X4_cover.2.1 44 = .ok (.iload 4, 2) := by decide +kernel
theorem dX4_cover_46 : decode M_X4_cover.2.1 46 = .ok (.if_icmp .gt 90, 3) := by decide +kernel
theorem dX4_cover_49 : decode M_X4_cover.2.1 49 = .ok (.iload 5, 2) := by decide +kernel
theorem dX4_cover_51 : decode M_X4_cover.2.1 51 = .ok (.iload 4, 2) := by decide +kernel
theorem dX4_cover_53 : decode M_X4_cover.2.1 53 = .ok (.iconst (-1), 1) := by decide +kernel
theorem dX4_cover_54 : decode M_X4_cover.2.1 54 = .ok (.ixor, 1) := by decide +kernel
theorem dX4_cover_55 : decode M_X4_cover.2.1 55 = .ok (.iand, 1) := by decide +kernel
theorem dX4_cover_56 : decode M_X4_cover.2.1 56 = .ok (.ifCond .ne 74, 3) := by decide +kernel
theorem dX4_cover_59 : decode M_X4_cover.2.1 59 = .ok (.iload_n 3, 1) := by decide +kernel
theorem dX4_cover_60 : decode M_X4_cover.2.1 60 = .ok (.ifCond .lt 15, 3) := by decide +kernel
theorem dX4_cover_63 : decode M_X4_cover.2.1 63 = .ok (.iload 5, 2) := by decide +kernel
theorem dX4_cover_65 : decode M_X4_cover.2.1 65 = .ok (.invokestatic 271, 3) := by decide +kernel
theorem dX4_cover_68 : decode M_X4_cover.2.1 68 = .ok (.iload_n 3, 1) := by decide +kernel
theorem dX4_cover_69 : decode M_X4_cover.2.1 69 = .ok (.invokestatic 271, 3) := by decide +kernel
theorem dX4_cover_72 : decode M_X4_cover.2.1 72 = .ok (.if_icmp .ge 58, 3) := by decide +kernel
theorem dX4_cover_75 : decode M_X4_cover.2.1 75 = .ok (.aload_n 0, 1) := by decide +kernel
theorem dX4_cover_76 : decode M_X4_cover.2.1 76 = .ok (.iload 5, 2) := by decide +kernel
theorem dX4_cover_78 : decode M_X4_cover.2.1 78 = .ok (.iload_n 1, 1) := by decide +kernel
theorem dX4_cover_79 : decode M_X4_cover.2.1 79 = .ok (.invokevirtual 304, 3) := by decide +kernel
theorem dX4_cover_82 : decode M_X4_cover.2.1 82 = .ok (.aload_n 0, 1) := by decide +kernel
theorem dX4_cover_83 : decode M_X4_cover.2.1 83 = .ok (.iload_n 1, 1) := by decide +kernel
theorem dX4_cover_84 : decode M_X4_cover.2.1 84 = .ok (.invokevirtual 259, 3) := by decide +kernel
theorem dX4_cover_87 : decode M_X4_cover.2.1 87 = .ok (.istore 6, 2) := by decide +kernel
theorem dX4_cover_89 : decode M_X4_cover.2.1 89 = .ok (.aload_n 0, 1) := by decide +kernel
theorem dX4_cover_90 : decode M_X4_cover.2.1 90 = .ok (.iload_n 1, 1) := by decide +kernel
theorem dX4_cover_91 : decode M_X4_cover.2.1 91 = .ok (.invokevirtual 253, 3) := by decide +kernel
theorem dX4_cover_94 : decode M_X4_cover.2.1 94 = .ok (.istore 7, 2) := by decide +kernel
theorem dX4_cover_96 : decode M_X4_cover.2.1 96 = .ok (.aload_n 0, 1) := by decide +kernel
theorem dX4_cover_97 : decode M_X4_cover.2.1 97 = .ok (.iload 7, 2) := by decide +kernel
theorem dX4_cover_99 : decode M_X4_cover.2.1 99 = .ok (.iload 6, 2) := by decide +kernel
theorem dX4_cover_101 : decode M_X4_cover.2.1 101 = .ok (.iload_n 2, 1) := by decide +kernel
theorem dX4_cover_102 : decode M_X4_cover.2.1 102 = .ok (.if_icmp .lt 8, 3) := by decide +kernel
theorem dX4_cover_105 : decode M_X4_cover.2.1 105 = .ok (.bipush 12, 2) := by decide +kernel
theorem dX4_cover_107 : decode M_X4_cover.2.1 107 = .ok (.goto 4, 3) := by decide +kernel
theorem dX4_cover_110 : decode M_X4_cover.2.1 110 = .ok (.iconst 0, 1) := by decide +kernel
theorem dX4_cover_111 : decode M_X4_cover.2.1 111 = .ok (.invokevirtual 307, 3) := by decide +kernel
theorem dX4_cover_114 : decode M_X4_cover.2.1 114 = .ok (.ifCond .eq 14, 3) := by decide +kernel
theorem dX4_cover_117 : decode M_X4_cover.2.1 117 = .ok (.iload 6, 2) := by decide +kernel
theorem dX4_cover_119 : decode M_X4_cover.2.1 119 = .ok (.iload_n 2, 1) := by decide +kernel
theorem dX4_cover_120 : decode M_X4_cover.2.1 120 = .ok (.if_icmp .lt 8, 3) := by decide +kernel
theorem dX4_cover_123 : decode M_X4_cover.2.1 123 = .ok (.iload 5, 2) := by decide +kernel
theorem dX4_cover_125 : decode M_X4_cover.2.1 125 = .ok (.goto 4, 3) := by decide +kernel
theorem dX4_cover_128 : decode M_X4_cover.2.1 128 = .ok (.iload_n 3, 1) := by decide +kernel
theorem dX4_cover_129 : decode M_X4_cover.2.1 129 = .ok (.istore_n 3, 1) := by decide +kernel
theorem dX4_cover_130 : decode M_X4_cover.2.1 130 = .ok (.iinc 5 1, 3) := by decide +kernel
theorem dX4_cover_133 : decode M_X4_cover.2.1 133 = .ok (.goto (-91), 3) := by decide +kernel
theorem dX4_cover_136 : decode M_X4_cover.2.1 136 = .ok (.iload_n 3, 1) := by decide +kernel
theorem dX4_cover_137 : decode M_X4_cover.2.1 137 = .ok (.ireturn, 1) := by decide +kernel
theorem hv_X4_301 : a_okV RX4 M_X4_freeBits 301 := ⟨a_in 1264 (by decide +kernel) rfl, a_in 1266 (by decide +kernel) rfl, a_in 61 (by decide +kernel) rfl⟩
theorem hv_X4_304 : a_okV RX4 M_X4_callAll 304 := ⟨a_in 1268 (by decide +kernel) rfl, a_in 1270 (by decide +kernel) rfl, a_in 62 (by decide +kernel) rfl⟩
theorem hv_X4_307 : a_okV RX4 M_X4_allLive 307 := ⟨a_in 1272 (by decide +kernel) rfl, a_in 1274 (by decide +kernel) rfl, a_in 63 (by decide +kernel) rfl⟩
def c_X4_cover_111 (a0 : Nat) (a1 : Int32) (a2 : Int32) (k42 : Int32 → Int32 → Int32 → aW → Option (Int32 × aW)) (b3 : Int32) (b4 : Int32) (b5 : Int32) (b6 : Int32) (s0 : Int32) (s1 : Int32) (s2 : Nat) (w : aW) : Option (Int32 × aW) :=
  cV 3 w s2 (bk (f_X4_allLive s2 s1 s0 w) fun x19 w18 =>
  if x19 = (0 : Int32) then
    k42 b3 b4 (b5 + 1) w18
  else
    if b6 < a2 then
      k42 b3 b4 (b5 + 1) w18
    else
      k42 b5 b4 (b5 + 1) w18)
theorem t_X4_cover_111 (a0 : Nat) (a1 : Int32) (a2 : Int32) (k42 : Int32 → Int32 → Int32 → aW → Option (Int32 × aW)) (hk42 : ∀ (b3 : Int32) (b4 : Int32) (b5 : Int32) (w : aW), Ev rvI M_X4_cover 42 [some (.ref a0), some (.int a1), some (.int a2), some (.int b3), some (.int b4), some (.int b5), none, none] [] w (k42 b3 b4 b5 w)) (b3 : Int32) (b4 : Int32) (b5 : Int32) (b6 : Int32) (s0 : Int32) (s1 : Int32) (s2 : Nat) (w : aW) : Ev rvI M_X4_cover 111 [some (.ref a0), some (.int a1), some (.int a2), some (.int b3), some (.int b4), some (.int b5), some (.int b6), none] [.int s0, .int s1, .ref s2] w (c_X4_cover_111 a0 a1 a2 k42 b3 b4 b5 b6 s0 s1 s2 w) := by
  unfold c_X4_cover_111
  refine e_callV (pc := 111) (av := [.int s1, .int s0]) (S := []) (c0 := 3) rfl rfl ok_X4_allLive ⟨Nat.le_of_ble_eq_true rfl, Nat.le_of_ble_eq_true rfl⟩ hv_X4_307 dX4_cover_111 (s_X4_allLive s2 s1 s0 w) rfl rfl (Nat.le_of_ble_eq_true rfl) (fun x19 w18 => ?_)
  refine e_if_eq (pc := 114) (tgt := 128) dX4_cover_114 (by decide) (fun _ => ?_) (fun _ => ?_)
  · refine e_iload_n (pc := 128) dX4_cover_128 rfl rfl ?_
    refine e_istore_n (L' := [some (.ref a0), some (.int a1), some (.int a2), some (.int b3), some (.int b4), some (.int b5), some (.int b6), none]) (pc := 129) dX4_cover_129 rfl (by decide) rfl ?_
    refine e_iinc (L' := [some (.ref a0), some (.int a1), some (.int a2), some (.int b3), some (.int b4), some (.int (b5 + 1)), some (.int b6), none]) (pc := 130) (v := 1) dX4_cover_130 (by decide) rfl kc_1 rfl ?_
    refine e_goto (pc := 133) (tgt := 42) dX4_cover_133 (by decide) ?_
    refine e_forget (L2 := [some (.ref a0), some (.int a1), some (.int a2), some (.int b3), some (.int b4), some (.int (b5 + 1)), none, none]) (And.intro rfl (And.intro rfl (And.intro rfl (And.intro rfl (And.intro rfl (And.intro rfl trivial)))))) ?_
    exact hk42 b3 b4 (b5 + 1) w18
  · refine e_iload (pc := 117) dX4_cover_117 rfl ?_
    refine e_iload_n (pc := 119) dX4_cover_119 rfl rfl ?_
    refine e_icmp_lt (pc := 120) (tgt := 128) dX4_cover_120 (by decide) (fun _ => ?_) (fun _ => ?_)
    · refine e_iload_n (pc := 128) dX4_cover_128 rfl rfl ?_
      refine e_istore_n (L' := [some (.ref a0), some (.int a1), some (.int a2), some (.int b3), some (.int b4), some (.int b5), some (.int b6), none]) (pc := 129) dX4_cover_129 rfl (by decide) rfl ?_
      refine e_iinc (L' := [some (.ref a0), some (.int a1), some (.int a2), some (.int b3), some (.int b4), some (.int (b5 + 1)), some (.int b6), none]) (pc := 130) (v := 1) dX4_cover_130 (by decide) rfl kc_1 rfl ?_
      refine e_goto (pc := 133) (tgt := 42) dX4_cover_133 (by decide) ?_
      refine e_forget (L2 := [some (.ref a0), some (.int a1), some (.int a2), some (.int b3), some (.int b4), some (.int (b5 + 1)), none, none]) (And.intro rfl (And.intro rfl (And.intro rfl (And.intro rfl (And.intro rfl (And.intro rfl trivial)))))) ?_
      exact hk42 b3 b4 (b5 + 1) w18
    · refine e_iload (pc := 123) dX4_cover_123 rfl ?_
      refine e_goto (pc := 125) (tgt := 129) dX4_cover_125 (by decide) ?_
      refine e_istore_n (L' := [some (.ref a0), some (.int a1), some (.int a2), some (.int b5), some (.int b4), some (.int b5), some (.int b6), none]) (pc := 129) dX4_cover_129 rfl (by decide) rfl ?_
      refine e_iinc (L' := [some (.ref a0), some (.int a1), some (.int a2), some (.int b5), some (.int b4), some (.int (b5 + 1)), some (.int b6), none]) (pc := 130) (v := 1) dX4_cover_130 (by decide) rfl kc_1 rfl ?_
      refine e_goto (pc := 133) (tgt := 42) dX4_cover_133 (by decide) ?_
      refine e_forget (L2 := [some (.ref a0), some (.int a1), some (.int a2), some (.int b5), some (.int b4), some (.int (b5 + 1)), none, none]) (And.intro rfl (And.intro rfl (And.intro rfl (And.intro rfl (And.intro rfl (And.intro rfl trivial)))))) ?_
      exact hk42 b5 b4 (b5 + 1) w18
def c_X4_cover_75 (a0 : Nat) (a1 : Int32) (a2 : Int32) (k42 : Int32 → Int32 → Int32 → aW → Option (Int32 × aW)) (b3 : Int32) (b4 : Int32) (b5 : Int32) (w : aW) : Option (Int32 × aW) :=
  cV 3 w a0 (bk (f_X4_callAll a0 b5 a1 w) fun _ w13 =>
  cV 3 w13 a0 (bk (f_X4_workBy a0 a1 w13) fun x15 w14 =>
  cV 3 w14 a0 (bk (f_X4_calledBits a0 a1 w14) fun x17 w16 =>
  if x15 < a2 then
    c_X4_cover_111 a0 a1 a2 k42 b3 b4 b5 x15 (0 : Int32) x17 a0 w16
  else
    c_X4_cover_111 a0 a1 a2 k42 b3 b4 b5 x15 (12 : Int32) x17 a0 w16)))
theorem t_X4_cover_75 (a0 : Nat) (a1 : Int32) (a2 : Int32) (k42 : Int32 → Int32 → Int32 → aW → Option (Int32 × aW)) (hk42 : ∀ (b3 : Int32) (b4 : Int32) (b5 : Int32) (w : aW), Ev rvI M_X4_cover 42 [some (.ref a0), some (.int a1), some (.int a2), some (.int b3), some (.int b4), some (.int b5), none, none] [] w (k42 b3 b4 b5 w)) (b3 : Int32) (b4 : Int32) (b5 : Int32) (w : aW) : Ev rvI M_X4_cover 75 [some (.ref a0), some (.int a1), some (.int a2), some (.int b3), some (.int b4), some (.int b5), none, none] [] w (c_X4_cover_75 a0 a1 a2 k42 b3 b4 b5 w) := by
  unfold c_X4_cover_75
  refine e_aload_n (pc := 75) dX4_cover_75 rfl rfl ?_
  refine e_iload (pc := 76) dX4_cover_76 rfl ?_
  refine e_iload_n (pc := 78) dX4_cover_78 rfl rfl ?_
  refine e_callV (pc := 79) (av := [.int b5, .int a1]) (S := []) (c0 := 3) rfl rfl ok_X4_callAll ⟨Nat.le_of_ble_eq_true rfl, Nat.le_of_ble_eq_true rfl⟩ hv_X4_304 dX4_cover_79 (s_X4_callAll a0 b5 a1 w) rfl rfl (Nat.le_of_ble_eq_true rfl) (fun _ w13 => ?_)
  refine e_aload_n (pc := 82) dX4_cover_82 rfl rfl ?_
  refine e_iload_n (pc := 83) dX4_cover_83 rfl rfl ?_
  refine e_callV (pc := 84) (av := [.int a1]) (S := []) (c0 := 3) rfl rfl ok_X4_workBy ⟨Nat.le_of_ble_eq_true rfl, Nat.le_of_ble_eq_true rfl⟩ hv_X4_259 dX4_cover_84 (s_X4_workBy a0 a1 w13) rfl rfl (Nat.le_of_ble_eq_true rfl) (fun x15 w14 => ?_)
  refine e_istore (L' := [some (.ref a0), some (.int a1), some (.int a2), some (.int b3), some (.int b4), some (.int b5), some (.int x15), none]) (pc := 87) dX4_cover_87 (by decide) rfl ?_
  refine e_aload_n (pc := 89) dX4_cover_89 rfl rfl ?_
  refine e_iload_n (pc := 90) dX4_cover_90 rfl rfl ?_
  refine e_callV (pc := 91) (av := [.int a1]) (S := []) (c0 := 3) rfl rfl ok_X4_calledBits ⟨Nat.le_of_ble_eq_true rfl, Nat.le_of_ble_eq_true rfl⟩ hv_X4_253 dX4_cover_91 (s_X4_calledBits a0 a1 w14) rfl rfl (Nat.le_of_ble_eq_true rfl) (fun x17 w16 => ?_)
  refine e_istore (L' := [some (.ref a0), some (.int a1), some (.int a2), some (.int b3), some (.int b4), some (.int b5), some (.int x15), some (.int x17)]) (pc := 94) dX4_cover_94 (by decide) rfl ?_
  refine e_aload_n (pc := 96) dX4_cover_96 rfl rfl ?_
  refine e_iload (pc := 97) dX4_cover_97 rfl ?_
  refine e_iload (pc := 99) dX4_cover_99 rfl ?_
  refine e_iload_n (pc := 101) dX4_cover_101 rfl rfl ?_
  refine e_icmp_lt (pc := 102) (tgt := 110) dX4_cover_102 (by decide) (fun _ => ?_) (fun _ => ?_)
  · refine e_iconst (pc := 110) dX4_cover_110 kc_0 ?_
    refine e_forget (L2 := [some (.ref a0), some (.int a1), some (.int a2), some (.int b3), some (.int b4), some (.int b5), some (.int x15), none]) (And.intro rfl (And.intro rfl (And.intro rfl (And.intro rfl (And.intro rfl (And.intro rfl (And.intro rfl trivial))))))) ?_
    exact t_X4_cover_111 a0 a1 a2 k42 hk42 b3 b4 b5 x15 (0 : Int32) x17 a0 w16
  · refine e_bipush (pc := 105) dX4_cover_105 kb_12 ?_
    refine e_goto (pc := 107) (tgt := 111) dX4_cover_107 (by decide) ?_
    refine e_forget (L2 := [some (.ref a0), some (.int a1), some (.int a2), some (.int b3), some (.int b4), some (.int b5), some (.int x15), none]) (And.intro rfl (And.intro rfl (And.intro rfl (And.intro rfl (And.intro rfl (And.intro rfl (And.intro rfl trivial))))))) ?_
    exact t_X4_cover_111 a0 a1 a2 k42 hk42 b3 b4 b5 x15 (12 : Int32) x17 a0 w16
def c_X4_cover_42 (a0 : Nat) (a1 : Int32) (a2 : Int32) (k42 : Int32 → Int32 → Int32 → aW → Option (Int32 × aW)) (b3 : Int32) (b4 : Int32) (b5 : Int32) (w : aW) : Option (Int32 × aW) :=
  if b4 < b5 then
    some (b3, w)
  else
    if ¬ (b5 &&& (b4 ^^^ (-1 : Int32))) = (0 : Int32) then
      k42 b3 b4 (b5 + 1) w
    else
      if b3 < (0 : Int32) then
        c_X4_cover_75 a0 a1 a2 k42 b3 b4 b5 w
      else
        bk (f_X4_onesOf b5 w) fun x10 w9 =>
        bk (f_X4_onesOf b3 w9) fun x12 w11 =>
        if x12 ≤ x10 then
          k42 b3 b4 (b5 + 1) w11
        else
          c_X4_cover_75 a0 a1 a2 k42 b3 b4 b5 w11
theorem t_X4_cover_42 (a0 : Nat) (a1 : Int32) (a2 : Int32) (k42 : Int32 → Int32 → Int32 → aW → Option (Int32 × aW)) (hk42 : ∀ (b3 : Int32) (b4 : Int32) (b5 : Int32) (w : aW), Ev rvI M_X4_cover 42 [some (.ref a0), some (.int a1), some (.int a2), some (.int b3), some (.int b4), some (.int b5), none, none] [] w (k42 b3 b4 b5 w)) (b3 : Int32) (b4 : Int32) (b5 : Int32) (w : aW) : Ev rvI M_X4_cover 42 [some (.ref a0), some (.int a1), some (.int a2), some (.int b3), some (.int b4), some (.int b5), none, none] [] w (c_X4_cover_42 a0 a1 a2 k42 b3 b4 b5 w) := by
  unfold c_X4_cover_42
  refine e_iload (pc := 42) dX4_cover_42 rfl ?_
  refine e_iload (pc := 44) dX4_cover_44 rfl ?_
  refine e_icmp_gt (pc := 46) (tgt := 136) dX4_cover_46 (by decide) (fun _ => ?_) (fun _ => ?_)
  · refine e_iload_n (pc := 136) dX4_cover_136 rfl rfl ?_
    exact e_iret (pc := 137) dX4_cover_137 rfl rfl
  · refine e_iload (pc := 49) dX4_cover_49 rfl ?_
    refine e_iload (pc := 51) dX4_cover_51 rfl ?_
    refine e_iconst (pc := 53) dX4_cover_53 kc_m1 ?_
    refine e_ixor (pc := 54) dX4_cover_54 ?_
    refine e_iand (pc := 55) dX4_cover_55 ?_
    refine e_if_ne (pc := 56) (tgt := 130) dX4_cover_56 (by decide) (fun _ => ?_) (fun _ => ?_)
    · refine e_iinc (L' := [some (.ref a0), some (.int a1), some (.int a2), some (.int b3), some (.int b4), some (.int (b5 + 1)), none, none]) (pc := 130) (v := 1) dX4_cover_130 (by decide) rfl kc_1 rfl ?_
      refine e_goto (pc := 133) (tgt := 42) dX4_cover_133 (by decide) ?_
      exact hk42 b3 b4 (b5 + 1) w
    · refine e_iload_n (pc := 59) dX4_cover_59 rfl rfl ?_
      refine e_if_lt (pc := 60) (tgt := 75) dX4_cover_60 (by decide) (fun _ => ?_) (fun _ => ?_)
      · exact t_X4_cover_75 a0 a1 a2 k42 hk42 b3 b4 b5 w
      · refine e_iload (pc := 63) dX4_cover_63 rfl ?_
        refine e_callS (pc := 65) (av := [.int b5]) (S := []) ok_X4_onesOf ⟨Nat.le_of_ble_eq_true rfl, Nat.le_of_ble_eq_true rfl⟩ ht_X4_271 dX4_cover_65 (s_X4_onesOf b5 w) rfl rfl (Nat.le_of_ble_eq_true rfl) (fun x10 w9 => ?_)
        refine e_iload_n (pc := 68) dX4_cover_68 rfl rfl ?_
        refine e_callS (pc := 69) (av := [.int b3]) (S := [.int x10]) ok_X4_onesOf ⟨Nat.le_of_ble_eq_true rfl, Nat.le_of_ble_eq_true rfl⟩ ht_X4_271 dX4_cover_69 (s_X4_onesOf b3 w9) rfl rfl (Nat.le_of_ble_eq_true rfl) (fun x12 w11 => ?_)
        refine e_icmp_ge (pc := 72) (tgt := 130) dX4_cover_72 (by decide) (fun _ => ?_) (fun _ => ?_)
        · refine e_iinc (L' := [some (.ref a0), some (.int a1), some (.int a2), some (.int b3), some (.int b4), some (.int (b5 + 1)), none, none]) (pc := 130) (v := 1) dX4_cover_130 (by decide) rfl kc_1 rfl ?_
          refine e_goto (pc := 133) (tgt := 42) dX4_cover_133 (by decide) ?_
          exact hk42 b3 b4 (b5 + 1) w11
        · exact t_X4_cover_75 a0 a1 a2 k42 hk42 b3 b4 b5 w11
def f_X4_cover (a0 : Nat) (a1 : Int32) (a2 : Int32) (w : aW) : Option (Int32 × aW) :=
  (sF 3 w a0 19 (.int (0 : Int32))).bind fun w1 =>
  bk (f_X4_isPerson a1 w1) fun x3 w2 =>
  if x3 = (0 : Int32) then
    some ((-1 : Int32), w2)
  else
    bk (f_X4_in a2.toInt64 (0 : Int64) (99 : Int64) w2) fun x5 w4 =>
    if ¬ x5 = (0 : Int32) then
      cV 3 w4 a0 (bk (f_X4_freeBits a0 w4) fun x7 w6 =>
      cV 3 w6 a0 (bk (f_X4_think a0 w6) fun _ w8 =>
      loop4 (c_X4_cover_42 a0 a1 a2) a_fuel (-4 : Int32) x7 (0 : Int32) w8))
    else
      some ((-1 : Int32), w4)
theorem s_X4_cover (a0 : Nat) (a1 : Int32) (a2 : Int32) (w : aW) : Sp rvI M_X4_cover [.ref a0, .int a1, .int a2] w (f_X4_cover a0 a1 a2 w) := by
  refine e_entry [some (.ref a0), some (.int a1), some (.int a2), none, none, none, none, none] (by decide +kernel) (Nat.le_of_ble_eq_true rfl) (fun _ => rfl) ?_
  unfold f_X4_cover
  refine e_aload_n (pc := 0) dX4_cover_0 rfl rfl ?_
  refine e_iconst (pc := 1) dX4_cover_1 kc_0 ?_
  refine e_put (pc := 2) dX4_cover_2 hw_X4_80 (fun _ => rfl) (fun _ => rfl) (fun w1 => ?_)
  refine e_iload_n (pc := 5) dX4_cover_5 rfl rfl ?_
  refine e_callS (pc := 6) (av := [.int a1]) (S := []) ok_X4_isPerson ⟨Nat.le_of_ble_eq_true rfl, Nat.le_of_ble_eq_true rfl⟩ ht_X4_188 dX4_cover_6 (s_X4_isPerson a1 w1) rfl rfl (Nat.le_of_ble_eq_true rfl) (fun x3 w2 => ?_)
  refine e_if_eq (pc := 9) (tgt := 24) dX4_cover_9 (by decide) (fun _ => ?_) (fun _ => ?_)
  · refine e_iconst (pc := 24) dX4_cover_24 kc_m1 ?_
    exact e_iret (pc := 25) dX4_cover_25 rfl rfl
  · refine e_iload_n (pc := 12) dX4_cover_12 rfl rfl ?_
    refine e_i2l (pc := 13) dX4_cover_13 ?_
    refine e_lconst (pc := 14) (v := 0) dX4_cover_14 (by decide) ?_
    refine e_ldc2 (pc := 15) (v := 99) dX4_cover_15 (a_in 1263 (by decide +kernel) rfl) ?_
    refine e_callS (pc := 18) (av := [.long a2.toInt64, .long (0 : Int64), .long (99 : Int64)]) (S := []) ok_X4_in ⟨Nat.le_of_ble_eq_true rfl, Nat.le_of_ble_eq_true rfl⟩ ht_X4_86 dX4_cover_18 (s_X4_in a2.toInt64 (0 : Int64) (99 : Int64) w2) rfl rfl (Nat.le_of_ble_eq_true rfl) (fun x5 w4 => ?_)
    refine e_if_ne (pc := 21) (tgt := 26) dX4_cover_21 (by decide) (fun _ => ?_) (fun _ => ?_)
    · refine e_bipush (pc := 26) dX4_cover_26 kb_m4 ?_
      refine e_istore_n (L' := [some (.ref a0), some (.int a1), some (.int a2), some (.int (-4 : Int32)), none, none, none, none]) (pc := 28) dX4_cover_28 rfl (by decide) rfl ?_
      refine e_aload_n (pc := 29) dX4_cover_29 rfl rfl ?_
      refine e_callV (pc := 30) (av := []) (S := []) (c0 := 3) rfl rfl ok_X4_freeBits ⟨Nat.le_of_ble_eq_true rfl, Nat.le_of_ble_eq_true rfl⟩ hv_X4_301 dX4_cover_30 (s_X4_freeBits a0 w4) rfl rfl (Nat.le_of_ble_eq_true rfl) (fun x7 w6 => ?_)
      refine e_istore (L' := [some (.ref a0), some (.int a1), some (.int a2), some (.int (-4 : Int32)), some (.int x7), none, none, none]) (pc := 33) dX4_cover_33 (by decide) rfl ?_
      refine e_aload_n (pc := 35) dX4_cover_35 rfl rfl ?_
      refine e_callV (pc := 36) (av := []) (S := []) (c0 := 3) rfl rfl ok_X4_think ⟨Nat.le_of_ble_eq_true rfl, Nat.le_of_ble_eq_true rfl⟩ hv_X4_221 dX4_cover_36 (s_X4_think a0 w6) rfl rfl (Nat.le_of_ble_eq_true rfl) (fun _ w8 => ?_)
      refine e_iconst (pc := 39) dX4_cover_39 kc_0 ?_
      refine e_istore (L' := [some (.ref a0), some (.int a1), some (.int a2), some (.int (-4 : Int32)), some (.int x7), some (.int (0 : Int32)), none, none]) (pc := 40) dX4_cover_40 (by decide) rfl ?_
      exact e_loop4 (L := fun b3 b4 b5 => [some (.ref a0), some (.int a1), some (.int a2), some (.int b3), some (.int b4), some (.int b5), none, none]) (S := fun b3 b4 b5 => []) (fun kf hkf => t_X4_cover_42 a0 a1 a2  kf hkf) _ (-4 : Int32) x7 (0 : Int32) w8
    · refine e_iconst (pc := 24) dX4_cover_24 kc_m1 ?_
      exact e_iret (pc := 25) dX4_cover_25 rfl rfl
def M_X4_letGo : aM := (yX4_letGo, cX4_letGo, 6, (some .int), 7, 158)
theorem ok_X4_letGo : a_okM M_X4_letGo 2 := ⟨⟨by decide +kernel, by decide +kernel⟩, by decide +kernel, a_in 1279 (by decide +kernel) rfl, a_in 79 (by decide +kernel) rfl⟩
theorem dX4_letGo_0 : decode M_X4_letGo.2.1 0 = .ok (.aload_n 0, 1) := by decide +kernel
theorem dX4_letGo_1 : decode M_X4_letGo.2.1 1 = .ok (.iconst 0, 1) := by decide +kernel
theorem dX4_letGo_2 : decode M_X4_letGo.2.1 2 = .ok (.putfield 80, 3) := by decide +kernel
theorem dX4_letGo_5 : decode M_X4_letGo.2.1 5 = .ok (.iload_n 1, 1) := by decide +kernel
theorem dX4_letGo_6 : decode M_X4_letGo.2.1 6 = .ok (.invokestatic 188, 3) := by decide +kernel
theorem dX4_letGo_9 : decode M_X4_letGo.2.1 9 = .ok (.ifCond .eq 15, 3) := by decide +kernel
theorem dX4_letGo_12 : decode M_X4_letGo.2.1 12 = .ok (.iload_n 2, 1) := by decide +kernel
theorem dX4_letGo_13 : decode M_X4_letGo.2.1 13 = .ok (.i2l, 1) := by decide +kernel
theorem dX4_letGo_14 : decode M_X4_letGo.2.1 14 = .ok (.lconst 0, 1) := by decide +kernel
theorem dX4_letGo_15 : decode M_X4_letGo.2.1 15 = .ok (.ldc2_w 310, 3) := by decide +kernel
theorem dX4_letGo_18 : decode M_X4_letGo.2.1 18 = .ok (.invokestatic 86, 3) := by decide +kernel
theorem dX4_letGo_21 : decode M_X4_letGo.2.1 21 = .ok (.ifCond .ne 5, 3) := by decide +kernel
theorem dX4_letGo_24 : decode M_X4_letGo.2.1 24 = .ok (.iconst (-1), 1) := by decide +kernel
theorem dX4_letGo_25 : decode M_X4_letGo.2.1 25 = .ok (.ireturn, 1) := by decide +kernel
theorem dX4_letGo_26 : decode M_X4_letGo.2.1 26 = .ok (.bipush (-4), 2) := by decide +kernel
theorem dX4_letGo_28 : decode M_X4_letGo.2.1 28 = .ok (.istore_n 3, 1) := by decide +kernel
theorem dX4_letGo_29 : decode M_X4_letGo.2.1 29 = .ok (.aload_n 0, 1) := by decide +kernel
theorem dX4_letGo_30 : decode M_X4_letGo.2.1 30 = .ok (.iload_n 1, 1) := by decide +kernel
theorem dX4_letGo_31 : decode M_X4_letGo.2.1 31 = .ok (.invokevirtual 253, 3) := by decide +kernel
theorem dX4_letGo_34 : decode M_X4_letGo.2.1 34 = .ok (.istore 4, 2) := by decide +kernel
theorem dX4_letGo_36 : decode M_X4_letGo.2.1 36 = .ok (.aload_n 0, 1) := by decide +kernel
theorem dX4_letGo_37 : decode M_X4_letGo.2.1 37 = .ok (.invokevirtual 221, 3) := by decide +kernel
theorem dX4_letGo_40 : decode M_X4_letGo.2.1 40 = .ok (.iconst 0, 1) := by decide +kernel
theorem dX4_letGo_41 : decode M_X4_letGo.2.1 41 = .ok (.istore 5, 2) := by decide +kernel
theorem dX4_letGo_43 : decode M_X4_letGo.2.1 43 = .ok (.iload 5, 2) := by decide +kernel
theorem dX4_letGo_45 : decode M_X4_letGo.2.1 45 = .ok (.iload 4, 2) := by decide +kernel
theorem dX4_letGo_47 : decode M_X4_letGo.2.1 47 = .ok (.if_icmp .gt 65, 3) := by decide +kernel
theorem dX4_letGo_50 : decode M_X4_letGo.2.1 50 = .ok (.iload 5, 2) := by decide +kernel
theorem dX4_letGo_52 : decode M_X4_letGo.2.1 52 = .ok (.iload 4, 2) := by decide +kernel
theorem dX4_letGo_54 : decode M_X4_letGo.2.1 54 = .ok (.iconst (-1), 1) := by decide +kernel
theorem dX4_letGo_55 : decode M_X4_letGo.2.1 55 = .ok (.ixor, 1) := by decide +kernel
theorem dX4_letGo_56 : decode M_X4_letGo.2.1 56 = .ok (.iand, 1) := by decide +kernel
theorem dX4_letGo_57 : decode M_X4_letGo.2.1 57 = .ok (.ifCond .ne 49, 3) := by decide +kernel
theorem dX4_letGo_60 : decode M_X4_letGo.2.1 60 = .ok (.iload_n 3, 1) := by decide +kernel
theorem dX4_letGo_61 : decode M_X4_letGo.2.1 61 = .ok (.ifCond .lt 15, 3) := by decide +kernel
theorem dX4_letGo_64 : decode M_X4_letGo.2.1 64 = .ok (.iload 5, 2) := by decide +kernel
theorem dX4_letGo_66 : decode M_X4_letGo.2.1 66 = .ok (.invokestatic 271, 3) := by decide +kernel
theorem dX4_letGo_69 : decode M_X4_letGo.2.1 69 = .ok (.iload_n 3, 1) := by decide +kernel
theorem dX4_letGo_70 : decode M_X4_letGo.2.1 70 = .ok (.invokestatic 271, 3) := by decide +kernel
theorem dX4_letGo_73 : decode M_X4_letGo.2.1 73 = .ok (.if_icmp .ge 33, 3) := by decide +kernel
theorem dX4_letGo_76 : decode M_X4_letGo.2.1 76 = .ok (.aload_n 0, 1) := by decide +kernel
theorem dX4_letGo_77 : decode M_X4_letGo.2.1 77 = .ok (.iload 5, 2) := by decide +kernel
theorem dX4_letGo_79 : decode M_X4_letGo.2.1 79 = .ok (.bipush (-4), 2) := by decide +kernel
theorem dX4_letGo_81 : decode M_X4_letGo.2.1 81 = .ok (.invokevirtual 304, 3) := by decide +kernel
theorem dX4_letGo_84 : decode M_X4_letGo.2.1 84 = .ok (.aload_n 0, 1) := by decide +kernel
theorem dX4_letGo_85 : decode M_X4_letGo.2.1 85 = .ok (.iload 4, 2) := by decide +kernel
theorem dX4_letGo_87 : decode M_X4_letGo.2.1 87 = .ok (.iload 5, 2) := by decide +kernel
theorem dX4_letGo_89 : decode M_X4_letGo.2.1 89 = .ok (.iconst (-1), 1) := by decide +kernel
theorem dX4_letGo_90 : decode M_X4_letGo.2.1 90 = .ok (.ixor, 1) := by decide +kernel
theorem dX4_letGo_91 : decode M_X4_letGo.2.1 91 = .ok (.iand, 1) := by decide +kernel
theorem dX4_letGo_92 : decode M_X4_letGo.2.1 92 = .ok (.iload_n 2, 1) := by decide +kernel
theorem dX4_letGo_93 : decode M_X4_letGo.2.1 93 = .ok (.invokevirtual 307, 3) := by decide +kernel
theorem dX4_letGo_96 : decode M_X4_letGo.2.1 96 = .ok (.ifCond .eq 8, 3) := by decide +kernel
theorem dX4_letGo_99 : decode M_X4_letGo.2.1 99 = .ok (.iload 5, 2) := by decide +kernel
theorem dX4_letGo_101 : decode M_X4_letGo.2.1 101 = .ok (.goto 4, 3) := by decide +kernel
theorem dX4_letGo_104 : decode M_X4_letGo.2.1 104 = .ok (.iload_n 3, 1) := by decide +kernel
theorem dX4_letGo_105 : decode M_X4_letGo.2.1 105 = .ok (.istore_n 3, 1) := by decide +kernel
theorem dX4_letGo_106 : decode M_X4_letGo.2.1 106 = .ok (.iinc 5 1, 3) := by decide +kernel
theorem dX4_letGo_109 : decode M_X4_letGo.2.1 109 = .ok (.goto (-66), 3) := by decide +kernel
theorem dX4_letGo_112 : decode M_X4_letGo.2.1 112 = .ok (.iload_n 3, 1) := by decide +kernel
theorem dX4_letGo_113 : decode M_X4_letGo.2.1 113 = .ok (.ireturn, 1) := by decide +kernel
def c_X4_letGo_76 (a0 : Nat) (a1 : Int32) (a2 : Int32) (k43 : Int32 → Int32 → Int32 → aW → Option (Int32 × aW)) (b3 : Int32) (b4 : Int32) (b5 : Int32) (w : aW) : Option (Int32 × aW) :=
  cV 3 w a0 (bk (f_X4_callAll a0 b5 (-4 : Int32) w) fun _ w13 =>
  cV 3 w13 a0 (bk (f_X4_allLive a0 (b4 &&& (b5 ^^^ (-1 : Int32))) a2 w13) fun x15 w14 =>
  if x15 = (0 : Int32) then
    k43 b3 b4 (b5 + 1) w14
  else
    k43 b5 b4 (b5 + 1) w14))
theorem t_X4_letGo_76 (a0 : Nat) (a1 : Int32) (a2 : Int32) (k43 : Int32 → Int32 → Int32 → aW → Option (Int32 × aW)) (hk43 : ∀ (b3 : Int32) (b4 : Int32) (b5 : Int32) (w : aW), Ev rvI M_X4_letGo 43 [some (.ref a0), none, some (.int a2), some (.int b3), some (.int b4), some (.int b5)] [] w (k43 b3 b4 b5 w)) (b3 : Int32) (b4 : Int32) (b5 : Int32) (w : aW) : Ev rvI M_X4_letGo 76 [some (.ref a0), none, some (.int a2), some (.int b3), some (.int b4), some (.int b5)] [] w (c_X4_letGo_76 a0 a1 a2 k43 b3 b4 b5 w) := by
  unfold c_X4_letGo_76
  refine e_aload_n (pc := 76) dX4_letGo_76 rfl rfl ?_
  refine e_iload (pc := 77) dX4_letGo_77 rfl ?_
  refine e_bipush (pc := 79) dX4_letGo_79 kb_m4 ?_
  refine e_callV (pc := 81) (av := [.int b5, .int (-4 : Int32)]) (S := []) (c0 := 3) rfl rfl ok_X4_callAll ⟨Nat.le_of_ble_eq_true rfl, Nat.le_of_ble_eq_true rfl⟩ hv_X4_304 dX4_letGo_81 (s_X4_callAll a0 b5 (-4 : Int32) w) rfl rfl (Nat.le_of_ble_eq_true rfl) (fun _ w13 => ?_)
  refine e_aload_n (pc := 84) dX4_letGo_84 rfl rfl ?_
  refine e_iload (pc := 85) dX4_letGo_85 rfl ?_
  refine e_iload (pc := 87) dX4_letGo_87 rfl ?_
  refine e_iconst (pc := 89) dX4_letGo_89 kc_m1 ?_
  refine e_ixor (pc := 90) dX4_letGo_90 ?_
  refine e_iand (pc := 91) dX4_letGo_91 ?_
  refine e_iload_n (pc := 92) dX4_letGo_92 rfl rfl ?_
  refine e_callV (pc := 93) (av := [.int (b4 &&& (b5 ^^^ (-1 : Int32))), .int a2]) (S := []) (c0 := 3) rfl rfl ok_X4_allLive ⟨Nat.le_of_ble_eq_true rfl, Nat.le_of_ble_eq_true rfl⟩ hv_X4_307 dX4_letGo_93 (s_X4_allLive a0 (b4 &&& (b5 ^^^ (-1 : Int32))) a2 w13) rfl rfl (Nat.le_of_ble_eq_true rfl) (fun x15 w14 => ?_)
  refine e_if_eq (pc := 96) (tgt := 104) dX4_letGo_96 (by decide) (fun _ => ?_) (fun _ => ?_)
  · refine e_iload_n (pc := 104) dX4_letGo_104 rfl rfl ?_
    refine e_istore_n (L' := [some (.ref a0), none, some (.int a2), some (.int b3), some (.int b4), some (.int b5)]) (pc := 105) dX4_letGo_105 rfl (by decide) rfl ?_
    refine e_iinc (L' := [some (.ref a0), none, some (.int a2), some (.int b3), some (.int b4), some (.int (b5 + 1))]) (pc := 106) (v := 1) dX4_letGo_106 (by decide) rfl kc_1 rfl ?_
    refine e_goto (pc := 109) (tgt := 43) dX4_letGo_109 (by decide) ?_
    exact hk43 b3 b4 (b5 + 1) w14
  · refine e_iload (pc := 99) dX4_letGo_99 rfl ?_
    refine e_goto (pc := 101) (tgt := 105) dX4_letGo_101 (by decide) ?_
    refine e_istore_n (L' := [some (.ref a0), none, some (.int a2), some (.int b5), some (.int b4), some (.int b5)]) (pc := 105) dX4_letGo_105 rfl (by decide) rfl ?_
    refine e_iinc (L' := [some (.ref a0), none, some (.int a2), some (.int b5), some (.int b4), some (.int (b5 + 1))]) (pc := 106) (v := 1) dX4_letGo_106 (by decide) rfl kc_1 rfl ?_
    refine e_goto (pc := 109) (tgt := 43) dX4_letGo_109 (by decide) ?_
    exact hk43 b5 b4 (b5 + 1) w14
def c_X4_letGo_43 (a0 : Nat) (a1 : Int32) (a2 : Int32) (k43 : Int32 → Int32 → Int32 → aW → Option (Int32 × aW)) (b3 : Int32) (b4 : Int32) (b5 : Int32) (w : aW) : Option (Int32 × aW) :=
  if b4 < b5 then
    some (b3, w)
  else
    if ¬ (b5 &&& (b4 ^^^ (-1 : Int32))) = (0 : Int32) then
      k43 b3 b4 (b5 + 1) w
    else
      if b3 < (0 : Int32) then
        c_X4_letGo_76 a0 a1 a2 k43 b3 b4 b5 w
      else
        bk (f_X4_onesOf b5 w) fun x10 w9 =>
        bk (f_X4_onesOf b3 w9) fun x12 w11 =>
        if x12 ≤ x10 then
          k43 b3 b4 (b5 + 1) w11
        else
          c_X4_letGo_76 a0 a1 a2 k43 b3 b4 b5 w11
theorem t_X4_letGo_43 (a0 : Nat) (a1 : Int32) (a2 : Int32) (k43 : Int32 → Int32 → Int32 → aW → Option (Int32 × aW)) (hk43 : ∀ (b3 : Int32) (b4 : Int32) (b5 : Int32) (w : aW), Ev rvI M_X4_letGo 43 [some (.ref a0), none, some (.int a2), some (.int b3), some (.int b4), some (.int b5)] [] w (k43 b3 b4 b5 w)) (b3 : Int32) (b4 : Int32) (b5 : Int32) (w : aW) : Ev rvI M_X4_letGo 43 [some (.ref a0), none, some (.int a2), some (.int b3), some (.int b4), some (.int b5)] [] w (c_X4_letGo_43 a0 a1 a2 k43 b3 b4 b5 w) := by
  unfold c_X4_letGo_43
  refine e_iload (pc := 43) dX4_letGo_43 rfl ?_
  refine e_iload (pc := 45) dX4_letGo_45 rfl ?_
  refine e_icmp_gt (pc := 47) (tgt := 112) dX4_letGo_47 (by decide) (fun _ => ?_) (fun _ => ?_)
  · refine e_iload_n (pc := 112) dX4_letGo_112 rfl rfl ?_
    exact e_iret (pc := 113) dX4_letGo_113 rfl rfl
  · refine e_iload (pc := 50) dX4_letGo_50 rfl ?_
    refine e_iload (pc := 52) dX4_letGo_52 rfl ?_
    refine e_iconst (pc := 54) dX4_letGo_54 kc_m1 ?_
    refine e_ixor (pc := 55) dX4_letGo_55 ?_
    refine e_iand (pc := 56) dX4_letGo_56 ?_
    refine e_if_ne (pc := 57) (tgt := 106) dX4_letGo_57 (by decide) (fun _ => ?_) (fun _ => ?_)
    · refine e_iinc (L' := [some (.ref a0), none, some (.int a2), some (.int b3), some (.int b4), some (.int (b5 + 1))]) (pc := 106) (v := 1) dX4_letGo_106 (by decide) rfl kc_1 rfl ?_
      refine e_goto (pc := 109) (tgt := 43) dX4_letGo_109 (by decide) ?_
      exact hk43 b3 b4 (b5 + 1) w
    · refine e_iload_n (pc := 60) dX4_letGo_60 rfl rfl ?_
      refine e_if_lt (pc := 61) (tgt := 76) dX4_letGo_61 (by decide) (fun _ => ?_) (fun _ => ?_)
      · exact t_X4_letGo_76 a0 a1 a2 k43 hk43 b3 b4 b5 w
      · refine e_iload (pc := 64) dX4_letGo_64 rfl ?_
        refine e_callS (pc := 66) (av := [.int b5]) (S := []) ok_X4_onesOf ⟨Nat.le_of_ble_eq_true rfl, Nat.le_of_ble_eq_true rfl⟩ ht_X4_271 dX4_letGo_66 (s_X4_onesOf b5 w) rfl rfl (Nat.le_of_ble_eq_true rfl) (fun x10 w9 => ?_)
        refine e_iload_n (pc := 69) dX4_letGo_69 rfl rfl ?_
        refine e_callS (pc := 70) (av := [.int b3]) (S := [.int x10]) ok_X4_onesOf ⟨Nat.le_of_ble_eq_true rfl, Nat.le_of_ble_eq_true rfl⟩ ht_X4_271 dX4_letGo_70 (s_X4_onesOf b3 w9) rfl rfl (Nat.le_of_ble_eq_true rfl) (fun x12 w11 => ?_)
        refine e_icmp_ge (pc := 73) (tgt := 106) dX4_letGo_73 (by decide) (fun _ => ?_) (fun _ => ?_)
        · refine e_iinc (L' := [some (.ref a0), none, some (.int a2), some (.int b3), some (.int b4), some (.int (b5 + 1))]) (pc := 106) (v := 1) dX4_letGo_106 (by decide) rfl kc_1 rfl ?_
          refine e_goto (pc := 109) (tgt := 43) dX4_letGo_109 (by decide) ?_
          exact hk43 b3 b4 (b5 + 1) w11
        · exact t_X4_letGo_76 a0 a1 a2 k43 hk43 b3 b4 b5 w11
def f_X4_letGo (a0 : Nat) (a1 : Int32) (a2 : Int32) (w : aW) : Option (Int32 × aW) :=
  (sF 3 w a0 19 (.int (0 : Int32))).bind fun w1 =>
  bk (f_X4_isPerson a1 w1) fun x3 w2 =>
  if x3 = (0 : Int32) then
    some ((-1 : Int32), w2)
  else
    bk (f_X4_in a2.toInt64 (0 : Int64) (20 : Int64) w2) fun x5 w4 =>
    if ¬ x5 = (0 : Int32) then
      cV 3 w4 a0 (bk (f_X4_calledBits a0 a1 w4) fun x7 w6 =>
      cV 3 w6 a0 (bk (f_X4_think a0 w6) fun _ w8 =>
      loop4 (c_X4_letGo_43 a0 a1 a2) a_fuel (-4 : Int32) x7 (0 : Int32) w8))
    else
      some ((-1 : Int32), w4)
theorem s_X4_letGo (a0 : Nat) (a1 : Int32) (a2 : Int32) (w : aW) : Sp rvI M_X4_letGo [.ref a0, .int a1, .int a2] w (f_X4_letGo a0 a1 a2 w) := by
  refine e_entry [some (.ref a0), some (.int a1), some (.int a2), none, none, none] (by decide +kernel) (Nat.le_of_ble_eq_true rfl) (fun _ => rfl) ?_
  unfold f_X4_letGo
  refine e_aload_n (pc := 0) dX4_letGo_0 rfl rfl ?_
  refine e_iconst (pc := 1) dX4_letGo_1 kc_0 ?_
  refine e_put (pc := 2) dX4_letGo_2 hw_X4_80 (fun _ => rfl) (fun _ => rfl) (fun w1 => ?_)
  refine e_iload_n (pc := 5) dX4_letGo_5 rfl rfl ?_
  refine e_callS (pc := 6) (av := [.int a1]) (S := []) ok_X4_isPerson ⟨Nat.le_of_ble_eq_true rfl, Nat.le_of_ble_eq_true rfl⟩ ht_X4_188 dX4_letGo_6 (s_X4_isPerson a1 w1) rfl rfl (Nat.le_of_ble_eq_true rfl) (fun x3 w2 => ?_)
  refine e_if_eq (pc := 9) (tgt := 24) dX4_letGo_9 (by decide) (fun _ => ?_) (fun _ => ?_)
  · refine e_iconst (pc := 24) dX4_letGo_24 kc_m1 ?_
    exact e_iret (pc := 25) dX4_letGo_25 rfl rfl
  · refine e_iload_n (pc := 12) dX4_letGo_12 rfl rfl ?_
    refine e_i2l (pc := 13) dX4_letGo_13 ?_
    refine e_lconst (pc := 14) (v := 0) dX4_letGo_14 (by decide) ?_
    refine e_ldc2 (pc := 15) (v := 20) dX4_letGo_15 (a_in 1280 (by decide +kernel) rfl) ?_
    refine e_callS (pc := 18) (av := [.long a2.toInt64, .long (0 : Int64), .long (20 : Int64)]) (S := []) ok_X4_in ⟨Nat.le_of_ble_eq_true rfl, Nat.le_of_ble_eq_true rfl⟩ ht_X4_86 dX4_letGo_18 (s_X4_in a2.toInt64 (0 : Int64) (20 : Int64) w2) rfl rfl (Nat.le_of_ble_eq_true rfl) (fun x5 w4 => ?_)
    refine e_if_ne (pc := 21) (tgt := 26) dX4_letGo_21 (by decide) (fun _ => ?_) (fun _ => ?_)
    · refine e_bipush (pc := 26) dX4_letGo_26 kb_m4 ?_
      refine e_istore_n (L' := [some (.ref a0), some (.int a1), some (.int a2), some (.int (-4 : Int32)), none, none]) (pc := 28) dX4_letGo_28 rfl (by decide) rfl ?_
      refine e_aload_n (pc := 29) dX4_letGo_29 rfl rfl ?_
      refine e_iload_n (pc := 30) dX4_letGo_30 rfl rfl ?_
      refine e_callV (pc := 31) (av := [.int a1]) (S := []) (c0 := 3) rfl rfl ok_X4_calledBits ⟨Nat.le_of_ble_eq_true rfl, Nat.le_of_ble_eq_true rfl⟩ hv_X4_253 dX4_letGo_31 (s_X4_calledBits a0 a1 w4) rfl rfl (Nat.le_of_ble_eq_true rfl) (fun x7 w6 => ?_)
      refine e_istore (L' := [some (.ref a0), some (.int a1), some (.int a2), some (.int (-4 : Int32)), some (.int x7), none]) (pc := 34) dX4_letGo_34 (by decide) rfl ?_
      refine e_aload_n (pc := 36) dX4_letGo_36 rfl rfl ?_
      refine e_callV (pc := 37) (av := []) (S := []) (c0 := 3) rfl rfl ok_X4_think ⟨Nat.le_of_ble_eq_true rfl, Nat.le_of_ble_eq_true rfl⟩ hv_X4_221 dX4_letGo_37 (s_X4_think a0 w6) rfl rfl (Nat.le_of_ble_eq_true rfl) (fun _ w8 => ?_)
      refine e_iconst (pc := 40) dX4_letGo_40 kc_0 ?_
      refine e_istore (L' := [some (.ref a0), some (.int a1), some (.int a2), some (.int (-4 : Int32)), some (.int x7), some (.int (0 : Int32))]) (pc := 41) dX4_letGo_41 (by decide) rfl ?_
      refine e_forget (L2 := [some (.ref a0), none, some (.int a2), some (.int (-4 : Int32)), some (.int x7), some (.int (0 : Int32))]) (And.intro rfl (And.intro rfl (And.intro rfl (And.intro rfl (And.intro rfl trivial))))) ?_
      exact e_loop4 (L := fun b3 b4 b5 => [some (.ref a0), none, some (.int a2), some (.int b3), some (.int b4), some (.int b5)]) (S := fun b3 b4 b5 => []) (fun kf hkf => t_X4_letGo_43 a0 a1 a2  kf hkf) _ (-4 : Int32) x7 (0 : Int32) w8
    · refine e_iconst (pc := 24) dX4_letGo_24 kc_m1 ?_
      exact e_iret (pc := 25) dX4_letGo_25 rfl rfl
