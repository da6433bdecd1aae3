/-! the decompiled methods: each f_ is what its bytecode does to a world; each s_ ties it to the machine. Written by program (wip/gen/gen.py). -/
def M_X4_readStatement : aM := (yX4_readStatement, cX4_readStatement, 3, none, 3, 70)
theorem ok_X4_readStatement : a_okM M_X4_readStatement 0 := ⟨⟨by decide +kernel, by decide +kernel⟩, by decide +kernel, a_in 997 (by decide +kernel) rfl, a_in 79 (by decide +kernel) rfl⟩
theorem dX4_readStatement_0 : decode M_X4_readStatement.2.1 0 = .ok (.aload_n 0, 1) := by decide +kernel
theorem dX4_readStatement_1 : decode M_X4_readStatement.2.1 1 = .ok (.getfield 172, 3) := by decide +kernel
theorem dX4_readStatement_4 : decode M_X4_readStatement.2.1 4 = .ok (.istore_n 1, 1) := by decide +kernel
theorem dX4_readStatement_5 : decode M_X4_readStatement.2.1 5 = .ok (.aload_n 0, 1) := by decide +kernel
theorem dX4_readStatement_6 : decode M_X4_readStatement.2.1 6 = .ok (.invokevirtual 162, 3) := by decide +kernel
theorem dX4_readStatement_9 : decode M_X4_readStatement.2.1 9 = .ok (.istore_n 2, 1) := by decide +kernel
theorem dX4_readStatement_10 : decode M_X4_readStatement.2.1 10 = .ok (.aload_n 0, 1) := by decide +kernel
theorem dX4_readStatement_11 : decode M_X4_readStatement.2.1 11 = .ok (.getfield 56, 3) := by decide +kernel
theorem dX4_readStatement_14 : decode M_X4_readStatement.2.1 14 = .ok (.iload_n 1, 1) := by decide +kernel
theorem dX4_readStatement_15 : decode M_X4_readStatement.2.1 15 = .ok (.aload_n 0, 1) := by decide +kernel
theorem dX4_readStatement_16 : decode M_X4_readStatement.2.1 16 = .ok (.getfield 152, 3) := by decide +kernel
theorem dX4_readStatement_19 : decode M_X4_readStatement.2.1 19 = .ok (.iastore, 1) := by decide +kernel
theorem dX4_readStatement_20 : decode M_X4_readStatement.2.1 20 = .ok (.aload_n 0, 1) := by decide +kernel
theorem dX4_readStatement_21 : decode M_X4_readStatement.2.1 21 = .ok (.getfield 59, 3) := by decide +kernel
theorem dX4_readStatement_24 : decode M_X4_readStatement.2.1 24 = .ok (.iload_n 1, 1) := by decide +kernel
theorem dX4_readStatement_25 : decode M_X4_readStatement.2.1 25 = .ok (.iload_n 2, 1) := by decide +kernel
theorem dX4_readStatement_26 : decode M_X4_readStatement.2.1 26 = .ok (.iastore, 1) := by decide +kernel
theorem dX4_readStatement_27 : decode M_X4_readStatement.2.1 27 = .ok (.aload_n 0, 1) := by decide +kernel
theorem dX4_readStatement_28 : decode M_X4_readStatement.2.1 28 = .ok (.aload_n 0, 1) := by decide +kernel
theorem dX4_readStatement_29 : decode M_X4_readStatement.2.1 29 = .ok (.getfield 158, 3) := by decide +kernel
theorem dX4_readStatement_32 : decode M_X4_readStatement.2.1 32 = .ok (.ifCond .ne 10, 3) := by decide +kernel
theorem dX4_readStatement_35 : decode M_X4_readStatement.2.1 35 = .ok (.iload_n 2, 1) := by decide +kernel
theorem dX4_readStatement_36 : decode M_X4_readStatement.2.1 36 = .ok (.invokestatic 175, 3) := by decide +kernel
theorem dX4_readStatement_39 : decode M_X4_readStatement.2.1 39 = .ok (.ifCond .ne 7, 3) := by decide +kernel
theorem dX4_readStatement_42 : decode M_X4_readStatement.2.1 42 = .ok (.iconst 1, 1) := by decide +kernel
theorem dX4_readStatement_43 : decode M_X4_readStatement.2.1 43 = .ok (.goto 4, 3) := by decide +kernel
theorem dX4_readStatement_46 : decode M_X4_readStatement.2.1 46 = .ok (.iconst 0, 1) := by decide +kernel
theorem dX4_readStatement_47 : decode M_X4_readStatement.2.1 47 = .ok (.putfield 158, 3) := by decide +kernel
theorem dX4_readStatement_50 : decode M_X4_readStatement.2.1 50 = .ok (.aload_n 0, 1) := by decide +kernel
theorem dX4_readStatement_51 : decode M_X4_readStatement.2.1 51 = .ok (.dup, 1) := by decide +kernel
theorem dX4_readStatement_52 : decode M_X4_readStatement.2.1 52 = .ok (.getfield 152, 3) := by decide +kernel
theorem dX4_readStatement_55 : decode M_X4_readStatement.2.1 55 = .ok (.aload_n 0, 1) := by decide +kernel
theorem dX4_readStatement_56 : decode M_X4_readStatement.2.1 56 = .ok (.getfield 158, 3) := by decide +kernel
theorem dX4_readStatement_59 : decode M_X4_readStatement.2.1 59 = .ok (.ifCond .eq 7, 3) := by decide +kernel
theorem dX4_readStatement_62 : decode M_X4_readStatement.2.1 62 = .ok (.iconst 0, 1) := by decide +kernel
theorem dX4_readStatement_63 : decode M_X4_readStatement.2.1 63 = .ok (.goto 4, 3) := by decide +kernel
theorem dX4_readStatement_66 : decode M_X4_readStatement.2.1 66 = .ok (.iconst 1, 1) := by decide +kernel
theorem dX4_readStatement_67 : decode M_X4_readStatement.2.1 67 = .ok (.iadd, 1) := by decide +kernel
theorem dX4_readStatement_68 : decode M_X4_readStatement.2.1 68 = .ok (.putfield 152, 3) := by decide +kernel
theorem dX4_readStatement_71 : decode M_X4_readStatement.2.1 71 = .ok (.aload_n 0, 1) := by decide +kernel
theorem dX4_readStatement_72 : decode M_X4_readStatement.2.1 72 = .ok (.getfield 158, 3) := by decide +kernel
theorem dX4_readStatement_75 : decode M_X4_readStatement.2.1 75 = .ok (.ifCond .ne 11, 3) := by decide +kernel
theorem dX4_readStatement_78 : decode M_X4_readStatement.2.1 78 = .ok (.aload_n 0, 1) := by decide +kernel
theorem dX4_readStatement_79 : decode M_X4_readStatement.2.1 79 = .ok (.iload_n 2, 1) := by decide +kernel
theorem dX4_readStatement_80 : decode M_X4_readStatement.2.1 80 = .ok (.iconst 4, 1) := by decide +kernel
theorem dX4_readStatement_81 : decode M_X4_readStatement.2.1 81 = .ok (.iload_n 1, 1) := by decide +kernel
theorem dX4_readStatement_82 : decode M_X4_readStatement.2.1 82 = .ok (.imul, 1) := by decide +kernel
theorem dX4_readStatement_83 : decode M_X4_readStatement.2.1 83 = .ok (.invokevirtual 178, 3) := by decide +kernel
theorem dX4_readStatement_86 : decode M_X4_readStatement.2.1 86 = .ok (.aload_n 0, 1) := by decide +kernel
theorem dX4_readStatement_87 : decode M_X4_readStatement.2.1 87 = .ok (.aload_n 0, 1) := by decide +kernel
theorem dX4_readStatement_88 : decode M_X4_readStatement.2.1 88 = .ok (.getfield 158, 3) := by decide +kernel
theorem dX4_readStatement_91 : decode M_X4_readStatement.2.1 91 = .ok (.ifCond .ne 12, 3) := by decide +kernel
theorem dX4_readStatement_94 : decode M_X4_readStatement.2.1 94 = .ok (.aload_n 0, 1) := by decide +kernel
theorem dX4_readStatement_95 : decode M_X4_readStatement.2.1 95 = .ok (.invokevirtual 162, 3) := by decide +kernel
theorem dX4_readStatement_98 : decode M_X4_readStatement.2.1 98 = .ok (.bipush 59, 2) := by decide +kernel
theorem dX4_readStatement_100 : decode M_X4_readStatement.2.1 100 = .ok (.if_icmp .eq 7, 3) := by decide +kernel
theorem dX4_readStatement_103 : decode M_X4_readStatement.2.1 103 = .ok (.iconst 1, 1) := by decide +kernel
theorem dX4_readStatement_104 : decode M_X4_readStatement.2.1 104 = .ok (.goto 4, 3) := by decide +kernel
theorem dX4_readStatement_107 : decode M_X4_readStatement.2.1 107 = .ok (.iconst 0, 1) := by decide +kernel
theorem dX4_readStatement_108 : decode M_X4_readStatement.2.1 108 = .ok (.putfield 158, 3) := by decide +kernel
theorem dX4_readStatement_111 : decode M_X4_readStatement.2.1 111 = .ok (.aload_n 0, 1) := by decide +kernel
theorem dX4_readStatement_112 : decode M_X4_readStatement.2.1 112 = .ok (.dup, 1) := by decide +kernel
theorem dX4_readStatement_113 : decode M_X4_readStatement.2.1 113 = .ok (.getfield 152, 3) := by decide +kernel
theorem dX4_readStatement_116 : decode M_X4_readStatement.2.1 116 = .ok (.aload_n 0, 1) := by decide +kernel
theorem dX4_readStatement_117 : decode M_X4_readStatement.2.1 117 = .ok (.getfield 158, 3) := by decide +kernel
theorem dX4_readStatement_120 : decode M_X4_readStatement.2.1 120 = .ok (.ifCond .eq 7, 3) := by decide +kernel
theorem dX4_readStatement_123 : decode M_X4_readStatement.2.1 123 = .ok (.iconst 0, 1) := by decide +kernel
theorem dX4_readStatement_124 : decode M_X4_readStatement.2.1 124 = .ok (.goto 4, 3) := by decide +kernel
theorem dX4_readStatement_127 : decode M_X4_readStatement.2.1 127 = .ok (.iconst 1, 1) := by decide +kernel
theorem dX4_readStatement_128 : decode M_X4_readStatement.2.1 128 = .ok (.iadd, 1) := by decide +kernel
theorem dX4_readStatement_129 : decode M_X4_readStatement.2.1 129 = .ok (.putfield 152, 3) := by decide +kernel
theorem dX4_readStatement_132 : decode M_X4_readStatement.2.1 132 = .ok (.aload_n 0, 1) := by decide +kernel
theorem dX4_readStatement_133 : decode M_X4_readStatement.2.1 133 = .ok (.dup, 1) := by decide +kernel
theorem dX4_readStatement_134 : decode M_X4_readStatement.2.1 134 = .ok (.getfield 172, 3) := by decide +kernel
theorem dX4_readStatement_137 : decode M_X4_readStatement.2.1 137 = .ok (.iconst 1, 1) := by decide +kernel
theorem dX4_readStatement_138 : decode M_X4_readStatement.2.1 138 = .ok (.iadd, 1) := by decide +kernel
theorem dX4_readStatement_139 : decode M_X4_readStatement.2.1 139 = .ok (.putfield 172, 3) := by decide +kernel
theorem dX4_readStatement_142 : decode M_X4_readStatement.2.1 142 = .ok (.return_, 1) := by decide +kernel
theorem hs_X4_172 : a_fs RX4 172 3 23 := ⟨RX4, TX4, 37, rfl, tin_X4, by decide, a_in 888 (by decide +kernel) rfl⟩
theorem hs_X4_56 : a_fs RX4 56 3 24 := ⟨RX4, TX4, 37, rfl, tin_X4, by decide, a_in 889 (by decide +kernel) rfl⟩
theorem hs_X4_59 : a_fs RX4 59 3 25 := ⟨RX4, TX4, 37, rfl, tin_X4, by decide, a_in 890 (by decide +kernel) rfl⟩
theorem ht_X4_175 : a_okS RX4 M_X4_isLetter 175 := ⟨a_in 1002 (by decide +kernel) rfl, a_in 1003 (by decide +kernel) rfl⟩
theorem hv_X4_178 : a_okV RX4 M_X4_readNumbers 178 := ⟨a_in 1005 (by decide +kernel) rfl, a_in 1007 (by decide +kernel) rfl, a_in 25 (by decide +kernel) rfl⟩
theorem hw_X4_172 : a_fw RX4 172 3 23 (.int) := ⟨RX4, TX4, 37, tyX4, rfl, tin_X4, by decide, a_in 888 (by decide +kernel) rfl, tyX4_ok, nmX4, rfl, by decide +kernel⟩
def c_X4_readStatement_108 (a0 : Nat) (s0 : Int32) (s1 : Nat) (w : aW) : Option (Unit × aW) :=
  if ¬ (s0 = 0 ∨ s0 = 1) then none else
  (sF 3 w s1 22 (.int s0)).bind fun w22 =>
  (gI 3 w22 a0 21).bind fun x24 =>
  (gI 3 w22 a0 22).bind fun x25 =>
  if x25 = (0 : Int32) then
    (sF 3 w22 a0 21 (.int (x24 + (1 : Int32)))).bind fun w26 =>
    (gI 3 w26 a0 23).bind fun x27 =>
    (sF 3 w26 a0 23 (.int (x27 + (1 : Int32)))).bind fun w28 =>
    some ((), w28)
  else
    (sF 3 w22 a0 21 (.int (x24 + (0 : Int32)))).bind fun w29 =>
    (gI 3 w29 a0 23).bind fun x30 =>
    (sF 3 w29 a0 23 (.int (x30 + (1 : Int32)))).bind fun w31 =>
    some ((), w31)
theorem t_X4_readStatement_108 (a0 : Nat) (s0 : Int32) (s1 : Nat) (w : aW) : Ev rvV M_X4_readStatement 108 [some (.ref a0), none, none] [.int s0, .ref s1] w (c_X4_readStatement_108 a0 s0 s1 w) := by
  unfold c_X4_readStatement_108
  refine e_chk (fun h23 => ?_)
  refine e_put (pc := 108) dX4_readStatement_108 hw_X4_158 (fun _ => a_nb (Decidable.not_not.mp h23)) (fun _ => a_fb (Decidable.not_not.mp h23)) (fun w22 => ?_)
  refine e_aload_n (pc := 111) dX4_readStatement_111 rfl rfl ?_
  refine e_dup (pc := 112) dX4_readStatement_112 rfl ?_
  refine e_getI (pc := 113) dX4_readStatement_113 hs_X4_152 (fun x24 => ?_)
  refine e_aload_n (pc := 116) dX4_readStatement_116 rfl rfl ?_
  refine e_getI (pc := 117) dX4_readStatement_117 hs_X4_158 (fun x25 => ?_)
  refine e_if_eq (pc := 120) (tgt := 127) dX4_readStatement_120 (by decide) (fun _ => ?_) (fun _ => ?_)
  · refine e_iconst (pc := 127) dX4_readStatement_127 kc_1 ?_
    refine e_iadd (pc := 128) dX4_readStatement_128 ?_
    refine e_put (pc := 129) dX4_readStatement_129 hw_X4_152 (fun _ => rfl) (fun _ => rfl) (fun w26 => ?_)
    refine e_aload_n (pc := 132) dX4_readStatement_132 rfl rfl ?_
    refine e_dup (pc := 133) dX4_readStatement_133 rfl ?_
    refine e_getI (pc := 134) dX4_readStatement_134 hs_X4_172 (fun x27 => ?_)
    refine e_iconst (pc := 137) dX4_readStatement_137 kc_1 ?_
    refine e_iadd (pc := 138) dX4_readStatement_138 ?_
    refine e_put (pc := 139) dX4_readStatement_139 hw_X4_172 (fun _ => rfl) (fun _ => rfl) (fun w28 => ?_)
    exact e_vret (pc := 142) dX4_readStatement_142 rfl
  · refine e_iconst (pc := 123) dX4_readStatement_123 kc_0 ?_
    refine e_goto (pc := 124) (tgt := 128) dX4_readStatement_124 (by decide) ?_
    refine e_iadd (pc := 128) dX4_readStatement_128 ?_
    refine e_put (pc := 129) dX4_readStatement_129 hw_X4_152 (fun _ => rfl) (fun _ => rfl) (fun w29 => ?_)
    refine e_aload_n (pc := 132) dX4_readStatement_132 rfl rfl ?_
    refine e_dup (pc := 133) dX4_readStatement_133 rfl ?_
    refine e_getI (pc := 134) dX4_readStatement_134 hs_X4_172 (fun x30 => ?_)
    refine e_iconst (pc := 137) dX4_readStatement_137 kc_1 ?_
    refine e_iadd (pc := 138) dX4_readStatement_138 ?_
    refine e_put (pc := 139) dX4_readStatement_139 hw_X4_172 (fun _ => rfl) (fun _ => rfl) (fun w31 => ?_)
    exact e_vret (pc := 142) dX4_readStatement_142 rfl
def c_X4_readStatement_86 (a0 : Nat) (w : aW) : Option (Unit × aW) :=
  (gI 3 w a0 22).bind fun x19 =>
  if ¬ x19 = (0 : Int32) then
    c_X4_readStatement_108 a0 (1 : Int32) a0 w
  else
    cV 3 w a0 (bk (f_X4_here a0 w) fun x21 w20 =>
    if x21 = (59 : Int32) then
      c_X4_readStatement_108 a0 (0 : Int32) a0 w20
    else
      c_X4_readStatement_108 a0 (1 : Int32) a0 w20)
theorem t_X4_readStatement_86 (a0 : Nat) (w : aW) : Ev rvV M_X4_readStatement 86 [some (.ref a0), none, none] [] w (c_X4_readStatement_86 a0 w) := by
  unfold c_X4_readStatement_86
  refine e_aload_n (pc := 86) dX4_readStatement_86 rfl rfl ?_
  refine e_aload_n (pc := 87) dX4_readStatement_87 rfl rfl ?_
  refine e_getI (pc := 88) dX4_readStatement_88 hs_X4_158 (fun x19 => ?_)
  refine e_if_ne (pc := 91) (tgt := 103) dX4_readStatement_91 (by decide) (fun _ => ?_) (fun _ => ?_)
  · refine e_iconst (pc := 103) dX4_readStatement_103 kc_1 ?_
    refine e_goto (pc := 104) (tgt := 108) dX4_readStatement_104 (by decide) ?_
    exact t_X4_readStatement_108 a0 (1 : Int32) a0 w
  · refine e_aload_n (pc := 94) dX4_readStatement_94 rfl rfl ?_
    refine e_callV (pc := 95) (av := []) (S := [.ref a0]) (c0 := 3) rfl rfl ok_X4_here ⟨Nat.le_of_ble_eq_true rfl, Nat.le_of_ble_eq_true rfl⟩ hv_X4_162 dX4_readStatement_95 (s_X4_here a0 w) rfl rfl (Nat.le_of_ble_eq_true rfl) (fun x21 w20 => ?_)
    refine e_bipush (pc := 98) dX4_readStatement_98 kb_59 ?_
    refine e_icmp_eq (pc := 100) (tgt := 107) dX4_readStatement_100 (by decide) (fun _ => ?_) (fun _ => ?_)
    · refine e_iconst (pc := 107) dX4_readStatement_107 kc_0 ?_
      exact t_X4_readStatement_108 a0 (0 : Int32) a0 w20
    · refine e_iconst (pc := 103) dX4_readStatement_103 kc_1 ?_
      refine e_goto (pc := 104) (tgt := 108) dX4_readStatement_104 (by decide) ?_
      exact t_X4_readStatement_108 a0 (1 : Int32) a0 w20
def c_X4_readStatement_67 (a0 : Nat) (b1 : Int32) (b2 : Int32) (s0 : Int32) (s1 : Int32) (s2 : Nat) (w : aW) : Option (Unit × aW) :=
  (sF 3 w s2 21 (.int (s1 + s0))).bind fun w16 =>
  (gI 3 w16 a0 22).bind fun x17 =>
  if ¬ x17 = (0 : Int32) then
    c_X4_readStatement_86 a0 w16
  else
    cV 3 w16 a0 (bk (f_X4_readNumbers a0 b2 ((4 : Int32) * b1) w16) fun _ w18 =>
    c_X4_readStatement_86 a0 w18)
theorem t_X4_readStatement_67 (a0 : Nat) (b1 : Int32) (b2 : Int32) (s0 : Int32) (s1 : Int32) (s2 : Nat) (w : aW) : Ev rvV M_X4_readStatement 67 [some (.ref a0), some (.int b1), some (.int b2)] [.int s0, .int s1, .ref s2] w (c_X4_readStatement_67 a0 b1 b2 s0 s1 s2 w) := by
  unfold c_X4_readStatement_67
  refine e_iadd (pc := 67) dX4_readStatement_67 ?_
  refine e_put (pc := 68) dX4_readStatement_68 hw_X4_152 (fun _ => rfl) (fun _ => rfl) (fun w16 => ?_)
  refine e_aload_n (pc := 71) dX4_readStatement_71 rfl rfl ?_
  refine e_getI (pc := 72) dX4_readStatement_72 hs_X4_158 (fun x17 => ?_)
  refine e_if_ne (pc := 75) (tgt := 86) dX4_readStatement_75 (by decide) (fun _ => ?_) (fun _ => ?_)
  · refine e_forget (L2 := [some (.ref a0), none, none]) (And.intro rfl trivial) ?_
    exact t_X4_readStatement_86 a0 w16
  · refine e_aload_n (pc := 78) dX4_readStatement_78 rfl rfl ?_
    refine e_iload_n (pc := 79) dX4_readStatement_79 rfl rfl ?_
    refine e_iconst (pc := 80) dX4_readStatement_80 kc_4 ?_
    refine e_iload_n (pc := 81) dX4_readStatement_81 rfl rfl ?_
    refine e_imul (pc := 82) dX4_readStatement_82 ?_
    refine e_callV (pc := 83) (av := [.int b2, .int ((4 : Int32) * b1)]) (S := []) (c0 := 3) rfl rfl ok_X4_readNumbers ⟨Nat.le_of_ble_eq_true rfl, Nat.le_of_ble_eq_true rfl⟩ hv_X4_178 dX4_readStatement_83 (s_X4_readNumbers a0 b2 ((4 : Int32) * b1) w16) rfl rfl (Nat.le_of_ble_eq_true rfl) (fun _ w18 => ?_)
    refine e_forget (L2 := [some (.ref a0), none, none]) (And.intro rfl trivial) ?_
    exact t_X4_readStatement_86 a0 w18
def c_X4_readStatement_47 (a0 : Nat) (b1 : Int32) (b2 : Int32) (s0 : Int32) (s1 : Nat) (w : aW) : Option (Unit × aW) :=
  if ¬ (s0 = 0 ∨ s0 = 1) then none else
  (sF 3 w s1 22 (.int s0)).bind fun w12 =>
  (gI 3 w12 a0 21).bind fun x14 =>
  (gI 3 w12 a0 22).bind fun x15 =>
  if x15 = (0 : Int32) then
    c_X4_readStatement_67 a0 b1 b2 (1 : Int32) x14 a0 w12
  else
    c_X4_readStatement_67 a0 b1 b2 (0 : Int32) x14 a0 w12
theorem t_X4_readStatement_47 (a0 : Nat) (b1 : Int32) (b2 : Int32) (s0 : Int32) (s1 : Nat) (w : aW) : Ev rvV M_X4_readStatement 47 [some (.ref a0), some (.int b1), some (.int b2)] [.int s0, .ref s1] w (c_X4_readStatement_47 a0 b1 b2 s0 s1 w) := by
  unfold c_X4_readStatement_47
  refine e_chk (fun h13 => ?_)
  refine e_put (pc := 47) dX4_readStatement_47 hw_X4_158 (fun _ => a_nb (Decidable.not_not.mp h13)) (fun _ => a_fb (Decidable.not_not.mp h13)) (fun w12 => ?_)
  refine e_aload_n (pc := 50) dX4_readStatement_50 rfl rfl ?_
  refine e_dup (pc := 51) dX4_readStatement_51 rfl ?_
  refine e_getI (pc := 52) dX4_readStatement_52 hs_X4_152 (fun x14 => ?_)
  refine e_aload_n (pc := 55) dX4_readStatement_55 rfl rfl ?_
  refine e_getI (pc := 56) dX4_readStatement_56 hs_X4_158 (fun x15 => ?_)
  refine e_if_eq (pc := 59) (tgt := 66) dX4_readStatement_59 (by decide) (fun _ => ?_) (fun _ => ?_)
  · refine e_iconst (pc := 66) dX4_readStatement_66 kc_1 ?_
    exact t_X4_readStatement_67 a0 b1 b2 (1 : Int32) x14 a0 w12
  · refine e_iconst (pc := 62) dX4_readStatement_62 kc_0 ?_
    refine e_goto (pc := 63) (tgt := 67) dX4_readStatement_63 (by decide) ?_
    exact t_X4_readStatement_67 a0 b1 b2 (0 : Int32) x14 a0 w12
def f_X4_readStatement (a0 : Nat) (w : aW) : Option (Unit × aW) :=
  (gI 3 w a0 23).bind fun x1 =>
  cV 3 w a0 (bk (f_X4_here a0 w) fun x3 w2 =>
  (gR 3 w2 a0 24).bind fun r4 =>
  (gI 3 w2 a0 21).bind fun x5 =>
  (sA w2 r4 x1 x5).bind fun w6 =>
  (gR 3 w6 a0 25).bind fun r7 =>
  (sA w6 r7 x1 x3).bind fun w8 =>
  (gI 3 w8 a0 22).bind fun x9 =>
  if ¬ x9 = (0 : Int32) then
    c_X4_readStatement_47 a0 x1 x3 (1 : Int32) a0 w8
  else
    bk (f_X4_isLetter x3 w8) fun x11 w10 =>
    if ¬ x11 = (0 : Int32) then
      c_X4_readStatement_47 a0 x1 x3 (0 : Int32) a0 w10
    else
      c_X4_readStatement_47 a0 x1 x3 (1 : Int32) a0 w10)
theorem s_X4_readStatement (a0 : Nat) (w : aW) : Sp rvV M_X4_readStatement [.ref a0] w (f_X4_readStatement a0 w) := by
  refine e_entry [some (.ref a0), none, none] (by decide +kernel) (Nat.le_of_ble_eq_true rfl) (fun _ => rfl) ?_
  unfold f_X4_readStatement
  refine e_aload_n (pc := 0) dX4_readStatement_0 rfl rfl ?_
  refine e_getI (pc := 1) dX4_readStatement_1 hs_X4_172 (fun x1 => ?_)
  refine e_istore_n (L' := [some (.ref a0), some (.int x1), none]) (pc := 4) dX4_readStatement_4 rfl (by decide) rfl ?_
  refine e_aload_n (pc := 5) dX4_readStatement_5 rfl rfl ?_
  refine e_callV (pc := 6) (av := []) (S := []) (c0 := 3) rfl rfl ok_X4_here ⟨Nat.le_of_ble_eq_true rfl, Nat.le_of_ble_eq_true rfl⟩ hv_X4_162 dX4_readStatement_6 (s_X4_here a0 w) rfl rfl (Nat.le_of_ble_eq_true rfl) (fun x3 w2 => ?_)
  refine e_istore_n (L' := [some (.ref a0), some (.int x1), some (.int x3)]) (pc := 9) dX4_readStatement_9 rfl (by decide) rfl ?_
  refine e_aload_n (pc := 10) dX4_readStatement_10 rfl rfl ?_
  refine e_getR (pc := 11) dX4_readStatement_11 hs_X4_56 (fun r4 => ?_)
  refine e_iload_n (pc := 14) dX4_readStatement_14 rfl rfl ?_
  refine e_aload_n (pc := 15) dX4_readStatement_15 rfl rfl ?_
  refine e_getI (pc := 16) dX4_readStatement_16 hs_X4_152 (fun x5 => ?_)
  refine e_iast (pc := 19) dX4_readStatement_19 (fun w6 => ?_)
  refine e_aload_n (pc := 20) dX4_readStatement_20 rfl rfl ?_
  refine e_getR (pc := 21) dX4_readStatement_21 hs_X4_59 (fun r7 => ?_)
  refine e_iload_n (pc := 24) dX4_readStatement_24 rfl rfl ?_
  refine e_iload_n (pc := 25) dX4_readStatement_25 rfl rfl ?_
  refine e_iast (pc := 26) dX4_readStatement_26 (fun w8 => ?_)
  refine e_aload_n (pc := 27) dX4_readStatement_27 rfl rfl ?_
  refine e_aload_n (pc := 28) dX4_readStatement_28 rfl rfl ?_
  refine e_getI (pc := 29) dX4_readStatement_29 hs_X4_158 (fun x9 => ?_)
  refine e_if_ne (pc := 32) (tgt := 42) dX4_readStatement_32 (by decide) (fun _ => ?_) (fun _ => ?_)
  · refine e_iconst (pc := 42) dX4_readStatement_42 kc_1 ?_
    refine e_goto (pc := 43) (tgt := 47) dX4_readStatement_43 (by decide) ?_
    exact t_X4_readStatement_47 a0 x1 x3 (1 : Int32) a0 w8
  · refine e_iload_n (pc := 35) dX4_readStatement_35 rfl rfl ?_
    refine e_callS (pc := 36) (av := [.int x3]) (S := [.ref a0]) ok_X4_isLetter ⟨Nat.le_of_ble_eq_true rfl, Nat.le_of_ble_eq_true rfl⟩ ht_X4_175 dX4_readStatement_36 (s_X4_isLetter x3 w8) rfl rfl (Nat.le_of_ble_eq_true rfl) (fun x11 w10 => ?_)
    refine e_if_ne (pc := 39) (tgt := 46) dX4_readStatement_39 (by decide) (fun _ => ?_) (fun _ => ?_)
    · refine e_iconst (pc := 46) dX4_readStatement_46 kc_0 ?_
      exact t_X4_readStatement_47 a0 x1 x3 (0 : Int32) a0 w10
    · refine e_iconst (pc := 42) dX4_readStatement_42 kc_1 ?_
      refine e_goto (pc := 43) (tgt := 47) dX4_readStatement_43 (by decide) ?_
      exact t_X4_readStatement_47 a0 x1 x3 (1 : Int32) a0 w10
def M_X4_beastComes : aM := (yX4_beastComes, cX4_beastComes, 5, (some .boolean), 2, 45)
theorem ok_X4_beastComes : a_okM M_X4_beastComes 3 := ⟨⟨by decide +kernel, by decide +kernel⟩, by decide +kernel, a_in 1034 (by decide +kernel) rfl, a_in 79 (by decide +kernel) rfl⟩
theorem dX4_beastComes_0 : decode M_X4_beastComes.2.1 0 = .ok (.iload_n 1, 1) := by decide +kernel
theorem dX4_beastComes_1 : decode M_X4_beastComes.2.1 1 = .ok (.bipush 8, 2) := by decide +kernel
theorem dX4_beastComes_3 : decode M_X4_beastComes.2.1 3 = .ok (.if_icmp .ge 23, 3) := by decide +kernel
theorem dX4_beastComes_6 : decode M_X4_beastComes.2.1 6 = .ok (.iload_n 3, 1) := by decide +kernel
theorem dX4_beastComes_7 : decode M_X4_beastComes.2.1 7 = .ok (.invokestatic 182, 3) := by decide +kernel
theorem dX4_beastComes_10 : decode M_X4_beastComes.2.1 10 = .ok (.ifCond .eq 16, 3) := by decide +kernel
theorem dX4_beastComes_13 : decode M_X4_beastComes.2.1 13 = .ok (.aload_n 0, 1) := by decide +kernel
theorem dX4_beastComes_14 : decode M_X4_beastComes.2.1 14 = .ok (.getfield 92, 3) := by decide +kernel
theorem dX4_beastComes_17 : decode M_X4_beastComes.2.1 17 = .ok (.bipush 9, 2) := by decide +kernel
theorem dX4_beastComes_19 : decode M_X4_beastComes.2.1 19 = .ok (.if_icmp .ge 7, 3) := by decide +kernel
theorem dX4_beastComes_22 : decode M_X4_beastComes.2.1 22 = .ok (.iconst 1, 1) := by decide +kernel
theorem dX4_beastComes_23 : decode M_X4_beastComes.2.1 23 = .ok (.goto 4, 3) := by decide +kernel
theorem dX4_beastComes_26 : decode M_X4_beastComes.2.1 26 = .ok (.iconst 0, 1) := by decide +kernel
theorem dX4_beastComes_27 : decode M_X4_beastComes.2.1 27 = .ok (.istore 4, 2) := by decide +kernel
theorem dX4_beastComes_29 : decode M_X4_beastComes.2.1 29 = .ok (.iload 4, 2) := by decide +kernel
theorem dX4_beastComes_31 : decode M_X4_beastComes.2.1 31 = .ok (.ifCond .eq 79, 3) := by decide +kernel
theorem dX4_beastComes_34 : decode M_X4_beastComes.2.1 34 = .ok (.aload_n 0, 1) := by decide +kernel
theorem dX4_beastComes_35 : decode M_X4_beastComes.2.1 35 = .ok (.getfield 7, 3) := by decide +kernel
theorem dX4_beastComes_38 : decode M_X4_beastComes.2.1 38 = .ok (.aload_n 0, 1) := by decide +kernel
theorem dX4_beastComes_39 : decode M_X4_beastComes.2.1 39 = .ok (.getfield 92, 3) := by decide +kernel
theorem dX4_beastComes_42 : decode M_X4_beastComes.2.1 42 = .ok (.iload_n 1, 1) := by decide +kernel
theorem dX4_beastComes_43 : decode M_X4_beastComes.2.1 43 = .ok (.iastore, 1) := by decide +kernel
theorem dX4_beastComes_44 : decode M_X4_beastComes.2.1 44 = .ok (.aload_n 0, 1) := by decide +kernel
theorem dX4_beastComes_45 : decode M_X4_beastComes.2.1 45 = .ok (.getfield 13, 3) := by decide +kernel
theorem dX4_beastComes_48 : decode M_X4_beastComes.2.1 48 = .ok (.aload_n 0, 1) := by decide +kernel
theorem dX4_beastComes_49 : decode M_X4_beastComes.2.1 49 = .ok (.getfield 92, 3) := by decide +kernel
theorem dX4_beastComes_52 : decode M_X4_beastComes.2.1 52 = .ok (.iload_n 2, 1) := by decide +kernel
theorem dX4_beastComes_53 : decode M_X4_beastComes.2.1 53 = .ok (.iastore, 1) := by decide +kernel
theorem dX4_beastComes_54 : decode M_X4_beastComes.2.1 54 = .ok (.aload_n 0, 1) := by decide +kernel
theorem dX4_beastComes_55 : decode M_X4_beastComes.2.1 55 = .ok (.getfield 16, 3) := by decide +kernel
theorem dX4_beastComes_58 : decode M_X4_beastComes.2.1 58 = .ok (.aload_n 0, 1) := by decide +kernel
theorem dX4_beastComes_59 : decode M_X4_beastComes.2.1 59 = .ok (.getfield 92, 3) := by decide +kernel
theorem dX4_beastComes_62 : decode M_X4_beastComes.2.1 62 = .ok (.iload_n 3, 1) := by decide +kernel
theorem dX4_beastComes_63 : decode M_X4_beastComes.2.1 63 = .ok (.iastore, 1) := by decide +kernel
theorem dX4_beastComes_64 : decode M_X4_beastComes.2.1 64 = .ok (.aload_n 0, 1) := by decide +kernel
theorem dX4_beastComes_65 : decode M_X4_beastComes.2.1 65 = .ok (.getfield 19, 3) := by decide +kernel
theorem dX4_beastComes_68 : decode M_X4_beastComes.2.1 68 = .ok (.aload_n 0, 1) := by decide +kernel
theorem dX4_beastComes_69 : decode M_X4_beastComes.2.1 69 = .ok (.getfield 92, 3) := by decide +kernel
theorem dX4_beastComes_72 : decode M_X4_beastComes.2.1 72 = .ok (.iconst 0, 1) := by decide +kernel
theorem dX4_beastComes_73 : decode M_X4_beastComes.2.1 73 = .ok (.iastore, 1) := by decide +kernel
theorem dX4_beastComes_74 : decode M_X4_beastComes.2.1 74 = .ok (.aload_n 0, 1) := by decide +kernel
theorem dX4_beastComes_75 : decode M_X4_beastComes.2.1 75 = .ok (.getfield 22, 3) := by decide +kernel
theorem dX4_beastComes_78 : decode M_X4_beastComes.2.1 78 = .ok (.aload_n 0, 1) := by decide +kernel
theorem dX4_beastComes_79 : decode M_X4_beastComes.2.1 79 = .ok (.getfield 92, 3) := by decide +kernel
theorem dX4_beastComes_82 : decode M_X4_beastComes.2.1 82 = .ok (.bipush (-4), 2) := by decide +kernel
theorem dX4_beastComes_84 : decode M_X4_beastComes.2.1 84 = .ok (.iastore, 1) := by decide +kernel
theorem dX4_beastComes_85 : decode M_X4_beastComes.2.1 85 = .ok (.aload_n 0, 1) := by decide +kernel
theorem dX4_beastComes_86 : decode M_X4_beastComes.2.1 86 = .ok (.dup, 1) := by decide +kernel
theorem dX4_beastComes_87 : decode M_X4_beastComes.2.1 87 = .ok (.getfield 107, 3) := by decide +kernel
theorem dX4_beastComes_90 : decode M_X4_beastComes.2.1 90 = .ok (.iconst 1, 1) := by decide +kernel
theorem dX4_beastComes_91 : decode M_X4_beastComes.2.1 91 = .ok (.aload_n 0, 1) := by decide +kernel
theorem dX4_beastComes_92 : decode M_X4_beastComes.2.1 92 = .ok (.getfield 92, 3) := by decide +kernel
theorem dX4_beastComes_95 : decode M_X4_beastComes.2.1 95 = .ok (.ishl, 1) := by decide +kernel
theorem dX4_beastComes_96 : decode M_X4_beastComes.2.1 96 = .ok (.ior, 1) := by decide +kernel
theorem dX4_beastComes_97 : decode M_X4_beastComes.2.1 97 = .ok (.putfield 107, 3) := by decide +kernel
theorem dX4_beastComes_100 : decode M_X4_beastComes.2.1 100 = .ok (.aload_n 0, 1) := by decide +kernel
theorem dX4_beastComes_101 : decode M_X4_beastComes.2.1 101 = .ok (.dup, 1) := by decide +kernel
theorem dX4_beastComes_102 : decode M_X4_beastComes.2.1 102 = .ok (.getfield 92, 3) := by decide +kernel
theorem dX4_beastComes_105 : decode M_X4_beastComes.2.1 105 = .ok (.iconst 1, 1) := by decide +kernel
theorem dX4_beastComes_106 : decode M_X4_beastComes.2.1 106 = .ok (.iadd, 1) := by decide +kernel
theorem dX4_beastComes_107 : decode M_X4_beastComes.2.1 107 = .ok (.putfield 92, 3) := by decide +kernel
theorem dX4_beastComes_110 : decode M_X4_beastComes.2.1 110 = .ok (.iload 4, 2) := by decide +kernel
theorem dX4_beastComes_112 : decode M_X4_beastComes.2.1 112 = .ok (.ireturn, 1) := by decide +kernel
theorem ht_X4_182 : a_okS RX4 M_X4_isPlace 182 := ⟨a_in 1035 (by decide +kernel) rfl, a_in 1036 (by decide +kernel) rfl⟩
theorem hw_X4_92 : a_fw RX4 92 3 0 (.int) := ⟨RX4, TX4, 37, tyX4, rfl, tin_X4, by decide, a_in 865 (by decide +kernel) rfl, tyX4_ok, nmX4, rfl, by decide +kernel⟩
def c_X4_beastComes_27 (a0 : Nat) (a1 : Int32) (a2 : Int32) (a3 : Int32) (s0 : Int32) (w : aW) : Option (Int32 × aW) :=
  if s0 = (0 : Int32) then
    if ¬ (s0 = 0 ∨ s0 = 1) then none else some (s0, w)
  else
    (gR 3 w a0 1).bind fun r5 =>
    (gI 3 w a0 0).bind fun x6 =>
    (sA w r5 x6 a1).bind fun w7 =>
    (gR 3 w7 a0 2).bind fun r8 =>
    (gI 3 w7 a0 0).bind fun x9 =>
    (sA w7 r8 x9 a2).bind fun w10 =>
    (gR 3 w10 a0 3).bind fun r11 =>
    (gI 3 w10 a0 0).bind fun x12 =>
    (sA w10 r11 x12 a3).bind fun w13 =>
    (gR 3 w13 a0 4).bind fun r14 =>
    (gI 3 w13 a0 0).bind fun x15 =>
    (sA w13 r14 x15 (0 : Int32)).bind fun w16 =>
    (gR 3 w16 a0 5).bind fun r17 =>
    (gI 3 w16 a0 0).bind fun x18 =>
    (sA w16 r17 x18 (-4 : Int32)).bind fun w19 =>
    (gI 3 w19 a0 6).bind fun x20 =>
    (gI 3 w19 a0 0).bind fun x21 =>
    (sF 3 w19 a0 6 (.int (x20 ||| ((1 : Int32) <<< (x21 &&& 31))))).bind fun w22 =>
    (gI 3 w22 a0 0).bind fun x23 =>
    (sF 3 w22 a0 0 (.int (x23 + (1 : Int32)))).bind fun w24 =>
    if ¬ (s0 = 0 ∨ s0 = 1) then none else some (s0, w24)
theorem t_X4_beastComes_27 (a0 : Nat) (a1 : Int32) (a2 : Int32) (a3 : Int32) (s0 : Int32) (w : aW) : Ev rvI M_X4_beastComes 27 [some (.ref a0), some (.int a1), some (.int a2), some (.int a3), none] [.int s0] w (c_X4_beastComes_27 a0 a1 a2 a3 s0 w) := by
  unfold c_X4_beastComes_27
  refine e_istore (L' := [some (.ref a0), some (.int a1), some (.int a2), some (.int a3), some (.int s0)]) (pc := 27) dX4_beastComes_27 (by decide) rfl ?_
  refine e_iload (pc := 29) dX4_beastComes_29 rfl ?_
  refine e_if_eq (pc := 31) (tgt := 110) dX4_beastComes_31 (by decide) (fun _ => ?_) (fun _ => ?_)
  · refine e_iload (pc := 110) dX4_beastComes_110 rfl ?_
    refine e_chk (fun h4 => ?_)
    exact e_iret (pc := 112) dX4_beastComes_112 rfl (a_nb (Decidable.not_not.mp h4))
  · refine e_aload_n (pc := 34) dX4_beastComes_34 rfl rfl ?_
    refine e_getR (pc := 35) dX4_beastComes_35 hs_X4_7 (fun r5 => ?_)
    refine e_aload_n (pc := 38) dX4_beastComes_38 rfl rfl ?_
    refine e_getI (pc := 39) dX4_beastComes_39 hs_X4_92 (fun x6 => ?_)
    refine e_iload_n (pc := 42) dX4_beastComes_42 rfl rfl ?_
    refine e_iast (pc := 43) dX4_beastComes_43 (fun w7 => ?_)
    refine e_aload_n (pc := 44) dX4_beastComes_44 rfl rfl ?_
    refine e_getR (pc := 45) dX4_beastComes_45 hs_X4_13 (fun r8 => ?_)
    refine e_aload_n (pc := 48) dX4_beastComes_48 rfl rfl ?_
    refine e_getI (pc := 49) dX4_beastComes_49 hs_X4_92 (fun x9 => ?_)
    refine e_iload_n (pc := 52) dX4_beastComes_52 rfl rfl ?_
    refine e_iast (pc := 53) dX4_beastComes_53 (fun w10 => ?_)
    refine e_aload_n (pc := 54) dX4_beastComes_54 rfl rfl ?_
    refine e_getR (pc := 55) dX4_beastComes_55 hs_X4_16 (fun r11 => ?_)
    refine e_aload_n (pc := 58) dX4_beastComes_58 rfl rfl ?_
    refine e_getI (pc := 59) dX4_beastComes_59 hs_X4_92 (fun x12 => ?_)
    refine e_iload_n (pc := 62) dX4_beastComes_62 rfl rfl ?_
    refine e_iast (pc := 63) dX4_beastComes_63 (fun w13 => ?_)
    refine e_aload_n (pc := 64) dX4_beastComes_64 rfl rfl ?_
    refine e_getR (pc := 65) dX4_beastComes_65 hs_X4_19 (fun r14 => ?_)
    refine e_aload_n (pc := 68) dX4_beastComes_68 rfl rfl ?_
    refine e_getI (pc := 69) dX4_beastComes_69 hs_X4_92 (fun x15 => ?_)
    refine e_iconst (pc := 72) dX4_beastComes_72 kc_0 ?_
    refine e_iast (pc := 73) dX4_beastComes_73 (fun w16 => ?_)
    refine e_aload_n (pc := 74) dX4_beastComes_74 rfl rfl ?_
    refine e_getR (pc := 75) dX4_beastComes_75 hs_X4_22 (fun r17 => ?_)
    refine e_aload_n (pc := 78) dX4_beastComes_78 rfl rfl ?_
    refine e_getI (pc := 79) dX4_beastComes_79 hs_X4_92 (fun x18 => ?_)
    refine e_bipush (pc := 82) dX4_beastComes_82 kb_m4 ?_
    refine e_iast (pc := 84) dX4_beastComes_84 (fun w19 => ?_)
    refine e_aload_n (pc := 85) dX4_beastComes_85 rfl rfl ?_
    refine e_dup (pc := 86) dX4_beastComes_86 rfl ?_
    refine e_getI (pc := 87) dX4_beastComes_87 hs_X4_107 (fun x20 => ?_)
    refine e_iconst (pc := 90) dX4_beastComes_90 kc_1 ?_
    refine e_aload_n (pc := 91) dX4_beastComes_91 rfl rfl ?_
    refine e_getI (pc := 92) dX4_beastComes_92 hs_X4_92 (fun x21 => ?_)
    refine e_ishl (pc := 95) dX4_beastComes_95 ?_
    refine e_ior (pc := 96) dX4_beastComes_96 ?_
    refine e_put (pc := 97) dX4_beastComes_97 hw_X4_107 (fun _ => rfl) (fun _ => rfl) (fun w22 => ?_)
    refine e_aload_n (pc := 100) dX4_beastComes_100 rfl rfl ?_
    refine e_dup (pc := 101) dX4_beastComes_101 rfl ?_
    refine e_getI (pc := 102) dX4_beastComes_102 hs_X4_92 (fun x23 => ?_)
    refine e_iconst (pc := 105) dX4_beastComes_105 kc_1 ?_
    refine e_iadd (pc := 106) dX4_beastComes_106 ?_
    refine e_put (pc := 107) dX4_beastComes_107 hw_X4_92 (fun _ => rfl) (fun _ => rfl) (fun w24 => ?_)
    refine e_iload (pc := 110) dX4_beastComes_110 rfl ?_
    refine e_chk (fun h25 => ?_)
    exact e_iret (pc := 112) dX4_beastComes_112 rfl (a_nb (Decidable.not_not.mp h25))
def f_X4_beastComes (a0 : Nat) (a1 : Int32) (a2 : Int32) (a3 : Int32) (w : aW) : Option (Int32 × aW) :=
  if (8 : Int32) ≤ a1 then
    c_X4_beastComes_27 a0 a1 a2 a3 (0 : Int32) w
  else
    bk (f_X4_isPlace a3 w) fun x2 w1 =>
    if x2 = (0 : Int32) then
      c_X4_beastComes_27 a0 a1 a2 a3 (0 : Int32) w1
    else
      (gI 3 w1 a0 0).bind fun x3 =>
      if (9 : Int32) ≤ x3 then
        c_X4_beastComes_27 a0 a1 a2 a3 (0 : Int32) w1
      else
        c_X4_beastComes_27 a0 a1 a2 a3 (1 : Int32) w1
theorem s_X4_beastComes (a0 : Nat) (a1 : Int32) (a2 : Int32) (a3 : Int32) (w : aW) : Sp rvI M_X4_beastComes [.ref a0, .int a1, .int a2, .int a3] w (f_X4_beastComes a0 a1 a2 a3 w) := by
  refine e_entry [some (.ref a0), some (.int a1), some (.int a2), some (.int a3), none] (by decide +kernel) (Nat.le_of_ble_eq_true rfl) (fun _ => rfl) ?_
  unfold f_X4_beastComes
  refine e_iload_n (pc := 0) dX4_beastComes_0 rfl rfl ?_
  refine e_bipush (pc := 1) dX4_beastComes_1 kb_8 ?_
  refine e_icmp_ge (pc := 3) (tgt := 26) dX4_beastComes_3 (by decide) (fun _ => ?_) (fun _ => ?_)
  · refine e_iconst (pc := 26) dX4_beastComes_26 kc_0 ?_
    exact t_X4_beastComes_27 a0 a1 a2 a3 (0 : Int32) w
  · refine e_iload_n (pc := 6) dX4_beastComes_6 rfl rfl ?_
    refine e_callS (pc := 7) (av := [.int a3]) (S := []) ok_X4_isPlace ⟨Nat.le_of_ble_eq_true rfl, Nat.le_of_ble_eq_true rfl⟩ ht_X4_182 dX4_beastComes_7 (s_X4_isPlace a3 w) rfl rfl (Nat.le_of_ble_eq_true rfl) (fun x2 w1 => ?_)
    refine e_if_eq (pc := 10) (tgt := 26) dX4_beastComes_10 (by decide) (fun _ => ?_) (fun _ => ?_)
    · refine e_iconst (pc := 26) dX4_beastComes_26 kc_0 ?_
      exact t_X4_beastComes_27 a0 a1 a2 a3 (0 : Int32) w1
    · refine e_aload_n (pc := 13) dX4_beastComes_13 rfl rfl ?_
      refine e_getI (pc := 14) dX4_beastComes_14 hs_X4_92 (fun x3 => ?_)
      refine e_bipush (pc := 17) dX4_beastComes_17 kb_9 ?_
      refine e_icmp_ge (pc := 19) (tgt := 26) dX4_beastComes_19 (by decide) (fun _ => ?_) (fun _ => ?_)
      · refine e_iconst (pc := 26) dX4_beastComes_26 kc_0 ?_
        exact t_X4_beastComes_27 a0 a1 a2 a3 (0 : Int32) w1
      · refine e_iconst (pc := 22) dX4_beastComes_22 kc_1 ?_
        refine e_goto (pc := 23) (tgt := 27) dX4_beastComes_23 (by decide) ?_
        exact t_X4_beastComes_27 a0 a1 a2 a3 (1 : Int32) w1
def M_X4_beastStands : aM := (yX4_beastStands, cX4_beastStands, 4, (some .boolean), 2, 46)
theorem ok_X4_beastStands : a_okM M_X4_beastStands 2 := ⟨⟨by decide +kernel, by decide +kernel⟩, by decide +kernel, a_in 1042 (by decide +kernel) rfl, a_in 79 (by decide +kernel) rfl⟩
theorem dX4_beastStands_0 : decode M_X4_beastStands.2.1 0 = .ok (.aload_n 0, 1) := by decide +kernel
theorem dX4_beastStands_1 : decode M_X4_beastStands.2.1 1 = .ok (.iload_n 1, 1) := by decide +kernel
theorem dX4_beastStands_2 : decode M_X4_beastStands.2.1 2 = .ok (.invokevirtual 185, 3) := by decide +kernel
theorem dX4_beastStands_5 : decode M_X4_beastStands.2.1 5 = .ok (.ifCond .eq 25, 3) := by decide +kernel
theorem dX4_beastStands_8 : decode M_X4_beastStands.2.1 8 = .ok (.aload_n 0, 1) := by decide +kernel
theorem dX4_beastStands_9 : decode M_X4_beastStands.2.1 9 = .ok (.getfield 107, 3) := by decide +kernel
theorem dX4_beastStands_12 : decode M_X4_beastStands.2.1 12 = .ok (.iload_n 1, 1) := by decide +kernel
theorem dX4_beastStands_13 : decode M_X4_beastStands.2.1 13 = .ok (.invokestatic 110, 3) := by decide +kernel
theorem dX4_beastStands_16 : decode M_X4_beastStands.2.1 16 = .ok (.ifCond .eq 14, 3) := by decide +kernel
theorem dX4_beastStands_19 : decode M_X4_beastStands.2.1 19 = .ok (.iload_n 2, 1) := by decide +kernel
theorem dX4_beastStands_20 : decode M_X4_beastStands.2.1 20 = .ok (.invokestatic 182, 3) := by decide +kernel
theorem dX4_beastStands_23 : decode M_X4_beastStands.2.1 23 = .ok (.ifCond .eq 7, 3) := by decide +kernel
theorem dX4_beastStands_26 : decode M_X4_beastStands.2.1 26 = .ok (.iconst 1, 1) := by decide +kernel
theorem dX4_beastStands_27 : decode M_X4_beastStands.2.1 27 = .ok (.goto 4, 3) := by decide +kernel
theorem dX4_beastStands_30 : decode M_X4_beastStands.2.1 30 = .ok (.iconst 0, 1) := by decide +kernel
theorem dX4_beastStands_31 : decode M_X4_beastStands.2.1 31 = .ok (.istore_n 3, 1) := by decide +kernel
theorem dX4_beastStands_32 : decode M_X4_beastStands.2.1 32 = .ok (.iload_n 3, 1) := by decide +kernel
theorem dX4_beastStands_33 : decode M_X4_beastStands.2.1 33 = .ok (.ifCond .eq 10, 3) := by decide +kernel
theorem dX4_beastStands_36 : decode M_X4_beastStands.2.1 36 = .ok (.aload_n 0, 1) := by decide +kernel
theorem dX4_beastStands_37 : decode M_X4_beastStands.2.1 37 = .ok (.getfield 16, 3) := by decide +kernel
theorem dX4_beastStands_40 : decode M_X4_beastStands.2.1 40 = .ok (.iload_n 1, 1) := by decide +kernel
theorem dX4_beastStands_41 : decode M_X4_beastStands.2.1 41 = .ok (.iload_n 2, 1) := by decide +kernel
theorem dX4_beastStands_42 : decode M_X4_beastStands.2.1 42 = .ok (.iastore, 1) := by decide +kernel
theorem dX4_beastStands_43 : decode M_X4_beastStands.2.1 43 = .ok (.iload_n 3, 1) := by decide +kernel
theorem dX4_beastStands_44 : decode M_X4_beastStands.2.1 44 = .ok (.ireturn, 1) := by decide +kernel
theorem hv_X4_185 : a_okV RX4 M_X4_isBeast 185 := ⟨a_in 1043 (by decide +kernel) rfl, a_in 1045 (by decide +kernel) rfl, a_in 33 (by decide +kernel) rfl⟩
def c_X4_beastStands_31 (a0 : Nat) (a1 : Int32) (a2 : Int32) (s0 : Int32) (w : aW) : Option (Int32 × aW) :=
  if s0 = (0 : Int32) then
    if ¬ (s0 = 0 ∨ s0 = 1) then none else some (s0, w)
  else
    (gR 3 w a0 3).bind fun r9 =>
    (sA w r9 a1 a2).bind fun w10 =>
    if ¬ (s0 = 0 ∨ s0 = 1) then none else some (s0, w10)
theorem t_X4_beastStands_31 (a0 : Nat) (a1 : Int32) (a2 : Int32) (s0 : Int32) (w : aW) : Ev rvI M_X4_beastStands 31 [some (.ref a0), some (.int a1), some (.int a2), none] [.int s0] w (c_X4_beastStands_31 a0 a1 a2 s0 w) := by
  unfold c_X4_beastStands_31
  refine e_istore_n (L' := [some (.ref a0), some (.int a1), some (.int a2), some (.int s0)]) (pc := 31) dX4_beastStands_31 rfl (by decide) rfl ?_
  refine e_iload_n (pc := 32) dX4_beastStands_32 rfl rfl ?_
  refine e_if_eq (pc := 33) (tgt := 43) dX4_beastStands_33 (by decide) (fun _ => ?_) (fun _ => ?_)
  · refine e_iload_n (pc := 43) dX4_beastStands_43 rfl rfl ?_
    refine e_chk (fun h8 => ?_)
    exact e_iret (pc := 44) dX4_beastStands_44 rfl (a_nb (Decidable.not_not.mp h8))
  · refine e_aload_n (pc := 36) dX4_beastStands_36 rfl rfl ?_
    refine e_getR (pc := 37) dX4_beastStands_37 hs_X4_16 (fun r9 => ?_)
    refine e_iload_n (pc := 40) dX4_beastStands_40 rfl rfl ?_
    refine e_iload_n (pc := 41) dX4_beastStands_41 rfl rfl ?_
    refine e_iast (pc := 42) dX4_beastStands_42 (fun w10 => ?_)
    refine e_iload_n (pc := 43) dX4_beastStands_43 rfl rfl ?_
    refine e_chk (fun h11 => ?_)
    exact e_iret (pc := 44) dX4_beastStands_44 rfl (a_nb (Decidable.not_not.mp h11))
def f_X4_beastStands (a0 : Nat) (a1 : Int32) (a2 : Int32) (w : aW) : Option (Int32 × aW) :=
  cV 3 w a0 (bk (f_X4_isBeast a0 a1 w) fun x2 w1 =>
  if x2 = (0 : Int32) then
    c_X4_beastStands_31 a0 a1 a2 (0 : Int32) w1
  else
    (gI 3 w1 a0 6).bind fun x3 =>
    bk (f_X4_hasBit x3 a1 w1) fun x5 w4 =>
    if x5 = (0 : Int32) then
      c_X4_beastStands_31 a0 a1 a2 (0 : Int32) w4
    else
      bk (f_X4_isPlace a2 w4) fun x7 w6 =>
      if x7 = (0 : Int32) then
        c_X4_beastStands_31 a0 a1 a2 (0 : Int32) w6
      else
        c_X4_beastStands_31 a0 a1 a2 (1 : Int32) w6)
theorem s_X4_beastStands (a0 : Nat) (a1 : Int32) (a2 : Int32) (w : aW) : Sp rvI M_X4_beastStands [.ref a0, .int a1, .int a2] w (f_X4_beastStands a0 a1 a2 w) := by
  refine e_entry [some (.ref a0), some (.int a1), some (.int a2), none] (by decide +kernel) (Nat.le_of_ble_eq_true rfl) (fun _ => rfl) ?_
  unfold f_X4_beastStands
  refine e_aload_n (pc := 0) dX4_beastStands_0 rfl rfl ?_
  refine e_iload_n (pc := 1) dX4_beastStands_1 rfl rfl ?_
  refine e_callV (pc := 2) (av := [.int a1]) (S := []) (c0 := 3) rfl rfl ok_X4_isBeast ⟨Nat.le_of_ble_eq_true rfl, Nat.le_of_ble_eq_true rfl⟩ hv_X4_185 dX4_beastStands_2 (s_X4_isBeast a0 a1 w) rfl rfl (Nat.le_of_ble_eq_true rfl) (fun x2 w1 => ?_)
  refine e_if_eq (pc := 5) (tgt := 30) dX4_beastStands_5 (by decide) (fun _ => ?_) (fun _ => ?_)
  · refine e_iconst (pc := 30) dX4_beastStands_30 kc_0 ?_
    exact t_X4_beastStands_31 a0 a1 a2 (0 : Int32) w1
  · refine e_aload_n (pc := 8) dX4_beastStands_8 rfl rfl ?_
    refine e_getI (pc := 9) dX4_beastStands_9 hs_X4_107 (fun x3 => ?_)
    refine e_iload_n (pc := 12) dX4_beastStands_12 rfl rfl ?_
    refine e_callS (pc := 13) (av := [.int x3, .int a1]) (S := []) ok_X4_hasBit ⟨Nat.le_of_ble_eq_true rfl, Nat.le_of_ble_eq_true rfl⟩ ht_X4_110 dX4_beastStands_13 (s_X4_hasBit x3 a1 w1) rfl rfl (Nat.le_of_ble_eq_true rfl) (fun x5 w4 => ?_)
    refine e_if_eq (pc := 16) (tgt := 30) dX4_beastStands_16 (by decide) (fun _ => ?_) (fun _ => ?_)
    · refine e_iconst (pc := 30) dX4_beastStands_30 kc_0 ?_
      exact t_X4_beastStands_31 a0 a1 a2 (0 : Int32) w4
    · refine e_iload_n (pc := 19) dX4_beastStands_19 rfl rfl ?_
      refine e_callS (pc := 20) (av := [.int a2]) (S := []) ok_X4_isPlace ⟨Nat.le_of_ble_eq_true rfl, Nat.le_of_ble_eq_true rfl⟩ ht_X4_182 dX4_beastStands_20 (s_X4_isPlace a2 w4) rfl rfl (Nat.le_of_ble_eq_true rfl) (fun x7 w6 => ?_)
      refine e_if_eq (pc := 23) (tgt := 30) dX4_beastStands_23 (by decide) (fun _ => ?_) (fun _ => ?_)
      · refine e_iconst (pc := 30) dX4_beastStands_30 kc_0 ?_
        exact t_X4_beastStands_31 a0 a1 a2 (0 : Int32) w6
      · refine e_iconst (pc := 26) dX4_beastStands_26 kc_1 ?_
        refine e_goto (pc := 27) (tgt := 31) dX4_beastStands_27 (by decide) ?_
        exact t_X4_beastStands_31 a0 a1 a2 (1 : Int32) w6
def M_X4_personComes : aM := (yX4_personComes, cX4_personComes, 4, (some .boolean), 2, 45)
theorem ok_X4_personComes : a_okM M_X4_personComes 1 := ⟨⟨by decide +kernel, by decide +kernel⟩, by decide +kernel, a_in 1053 (by decide +kernel) rfl, a_in 79 (by decide +kernel) rfl⟩
theorem dX4_personComes_0 : decode M_X4_personComes.2.1 0 = .ok (.aload_n 0, 1) := by decide +kernel
theorem dX4_personComes_1 : decode M_X4_personComes.2.1 1 = .ok (.getfield 62, 3) := by decide +kernel
theorem dX4_personComes_4 : decode M_X4_personComes.2.1 4 = .ok (.iload_n 1, 1) := by decide +kernel
theorem dX4_personComes_5 : decode M_X4_personComes.2.1 5 = .ok (.iaload, 1) := by decide +kernel
theorem dX4_personComes_6 : decode M_X4_personComes.2.1 6 = .ok (.istore_n 2, 1) := by decide +kernel
theorem dX4_personComes_7 : decode M_X4_personComes.2.1 7 = .ok (.iload_n 2, 1) := by decide +kernel
theorem dX4_personComes_8 : decode M_X4_personComes.2.1 8 = .ok (.invokestatic 188, 3) := by decide +kernel
theorem dX4_personComes_11 : decode M_X4_personComes.2.1 11 = .ok (.ifCond .eq 33, 3) := by decide +kernel
theorem dX4_personComes_14 : decode M_X4_personComes.2.1 14 = .ok (.aload_n 0, 1) := by decide +kernel
theorem dX4_personComes_15 : decode M_X4_personComes.2.1 15 = .ok (.getfield 62, 3) := by decide +kernel
theorem dX4_personComes_18 : decode M_X4_personComes.2.1 18 = .ok (.iload_n 1, 1) := by decide +kernel
theorem dX4_personComes_19 : decode M_X4_personComes.2.1 19 = .ok (.iconst 1, 1) := by decide +kernel
theorem dX4_personComes_20 : decode M_X4_personComes.2.1 20 = .ok (.iadd, 1) := by decide +kernel
theorem dX4_personComes_21 : decode M_X4_personComes.2.1 21 = .ok (.iaload, 1) := by decide +kernel
theorem dX4_personComes_22 : decode M_X4_personComes.2.1 22 = .ok (.iconst 4, 1) := by decide +kernel
theorem dX4_personComes_23 : decode M_X4_personComes.2.1 23 = .ok (.if_icmp .ge 21, 3) := by decide +kernel
theorem dX4_personComes_26 : decode M_X4_personComes.2.1 26 = .ok (.aload_n 0, 1) := by decide +kernel
theorem dX4_personComes_27 : decode M_X4_personComes.2.1 27 = .ok (.getfield 62, 3) := by decide +kernel
theorem dX4_personComes_30 : decode M_X4_personComes.2.1 30 = .ok (.iload_n 1, 1) := by decide +kernel
theorem dX4_personComes_31 : decode M_X4_personComes.2.1 31 = .ok (.iconst 2, 1) := by decide +kernel
theorem dX4_personComes_32 : decode M_X4_personComes.2.1 32 = .ok (.iadd, 1) := by decide +kernel
theorem dX4_personComes_33 : decode M_X4_personComes.2.1 33 = .ok (.iaload, 1) := by decide +kernel
theorem dX4_personComes_34 : decode M_X4_personComes.2.1 34 = .ok (.invokestatic 182, 3) := by decide +kernel
theorem dX4_personComes_37 : decode M_X4_personComes.2.1 37 = .ok (.ifCond .eq 7, 3) := by decide +kernel
theorem dX4_personComes_40 : decode M_X4_personComes.2.1 40 = .ok (.iconst 1, 1) := by decide +kernel
theorem dX4_personComes_41 : decode M_X4_personComes.2.1 41 = .ok (.goto 4, 3) := by decide +kernel
theorem dX4_personComes_44 : decode M_X4_personComes.2.1 44 = .ok (.iconst 0, 1) := by decide +kernel
theorem dX4_personComes_45 : decode M_X4_personComes.2.1 45 = .ok (.istore_n 3, 1) := by decide +kernel
theorem dX4_personComes_46 : decode M_X4_personComes.2.1 46 = .ok (.iload_n 3, 1) := by decide +kernel
theorem dX4_personComes_47 : decode M_X4_personComes.2.1 47 = .ok (.ifCond .eq 45, 3) := by decide +kernel
theorem dX4_personComes_50 : decode M_X4_personComes.2.1 50 = .ok (.aload_n 0, 1) := by decide +kernel
theorem dX4_personComes_51 : decode M_X4_personComes.2.1 51 = .ok (.getfield 31, 3) := by decide +kernel
theorem dX4_personComes_54 : decode M_X4_personComes.2.1 54 = .ok (.iload_n 2, 1) := by decide +kernel
theorem dX4_personComes_55 : decode M_X4_personComes.2.1 55 = .ok (.aload_n 0, 1) := by decide +kernel
theorem dX4_personComes_56 : decode M_X4_personComes.2.1 56 = .ok (.getfield 62, 3) := by decide +kernel
theorem dX4_personComes_59 : decode M_X4_personComes.2.1 59 = .ok (.iload_n 1, 1) := by decide +kernel
theorem dX4_personComes_60 : decode M_X4_personComes.2.1 60 = .ok (.iconst 1, 1) := by decide +kernel
theorem dX4_personComes_61 : decode M_X4_personComes.2.1 61 = .ok (.iadd, 1) := by decide +kernel
theorem dX4_personComes_62 : decode M_X4_personComes.2.1 62 = .ok (.iaload, 1) := by decide +kernel
theorem dX4_personComes_63 : decode M_X4_personComes.2.1 63 = .ok (.iastore, 1) := by decide +kernel
theorem dX4_personComes_64 : decode M_X4_personComes.2.1 64 = .ok (.aload_n 0, 1) := by decide +kernel
theorem dX4_personComes_65 : decode M_X4_personComes.2.1 65 = .ok (.getfield 28, 3) := by decide +kernel
theorem dX4_personComes_68 : decode M_X4_personComes.2.1 68 = .ok (.iload_n 2, 1) := by decide +kernel
theorem dX4_personComes_69 : decode M_X4_personComes.2.1 69 = .ok (.aload_n 0, 1) := by decide +kernel
theorem dX4_personComes_70 : decode M_X4_personComes.2.1 70 = .ok (.getfield 62, 3) := by decide +kernel
theorem dX4_personComes_73 : decode M_X4_personComes.2.1 73 = .ok (.iload_n 1, 1) := by decide +kernel
theorem dX4_personComes_74 : decode M_X4_personComes.2.1 74 = .ok (.iconst 2, 1) := by decide +kernel
theorem dX4_personComes_75 : decode M_X4_personComes.2.1 75 = .ok (.iadd, 1) := by decide +kernel
theorem dX4_personComes_76 : decode M_X4_personComes.2.1 76 = .ok (.iaload, 1) := by decide +kernel
theorem dX4_personComes_77 : decode M_X4_personComes.2.1 77 = .ok (.iastore, 1) := by decide +kernel
theorem dX4_personComes_78 : decode M_X4_personComes.2.1 78 = .ok (.aload_n 0, 1) := by decide +kernel
theorem dX4_personComes_79 : decode M_X4_personComes.2.1 79 = .ok (.getfield 25, 3) := by decide +kernel
theorem dX4_personComes_82 : decode M_X4_personComes.2.1 82 = .ok (.iload_n 2, 1) := by decide +kernel
theorem dX4_personComes_83 : decode M_X4_personComes.2.1 83 = .ok (.aload_n 0, 1) := by decide +kernel
theorem dX4_personComes_84 : decode M_X4_personComes.2.1 84 = .ok (.getfield 62, 3) := by decide +kernel
theorem dX4_personComes_87 : decode M_X4_personComes.2.1 87 = .ok (.iload_n 1, 1) := by decide +kernel
theorem dX4_personComes_88 : decode M_X4_personComes.2.1 88 = .ok (.iconst 3, 1) := by decide +kernel
theorem dX4_personComes_89 : decode M_X4_personComes.2.1 89 = .ok (.iadd, 1) := by decide +kernel
theorem dX4_personComes_90 : decode M_X4_personComes.2.1 90 = .ok (.iaload, 1) := by decide +kernel
theorem dX4_personComes_91 : decode M_X4_personComes.2.1 91 = .ok (.iastore, 1) := by decide +kernel
theorem dX4_personComes_92 : decode M_X4_personComes.2.1 92 = .ok (.iload_n 3, 1) := by decide +kernel
theorem dX4_personComes_93 : decode M_X4_personComes.2.1 93 = .ok (.ireturn, 1) := by decide +kernel
theorem ht_X4_188 : a_okS RX4 M_X4_isPerson 188 := ⟨a_in 1054 (by decide +kernel) rfl, a_in 1055 (by decide +kernel) rfl⟩
def c_X4_personComes_45 (a0 : Nat) (a1 : Int32) (b2 : Int32) (s0 : Int32) (w : aW) : Option (Int32 × aW) :=
  if s0 = (0 : Int32) then
    if ¬ (s0 = 0 ∨ s0 = 1) then none else some (s0, w)
  else
    (gR 3 w a0 9).bind fun r12 =>
    (gR 3 w a0 26).bind fun r13 =>
    (gA w r13 (a1 + (1 : Int32))).bind fun x14 =>
    (sA w r12 b2 x14).bind fun w15 =>
    (gR 3 w15 a0 8).bind fun r16 =>
    (gR 3 w15 a0 26).bind fun r17 =>
    (gA w15 r17 (a1 + (2 : Int32))).bind fun x18 =>
    (sA w15 r16 b2 x18).bind fun w19 =>
    (gR 3 w19 a0 7).bind fun r20 =>
    (gR 3 w19 a0 26).bind fun r21 =>
    (gA w19 r21 (a1 + (3 : Int32))).bind fun x22 =>
    (sA w19 r20 b2 x22).bind fun w23 =>
    if ¬ (s0 = 0 ∨ s0 = 1) then none else some (s0, w23)
theorem t_X4_personComes_45 (a0 : Nat) (a1 : Int32) (b2 : Int32) (s0 : Int32) (w : aW) : Ev rvI M_X4_personComes 45 [some (.ref a0), some (.int a1), some (.int b2), none] [.int s0] w (c_X4_personComes_45 a0 a1 b2 s0 w) := by
  unfold c_X4_personComes_45
  refine e_istore_n (L' := [some (.ref a0), some (.int a1), some (.int b2), some (.int s0)]) (pc := 45) dX4_personComes_45 rfl (by decide) rfl ?_
  refine e_iload_n (pc := 46) dX4_personComes_46 rfl rfl ?_
  refine e_if_eq (pc := 47) (tgt := 92) dX4_personComes_47 (by decide) (fun _ => ?_) (fun _ => ?_)
  · refine e_iload_n (pc := 92) dX4_personComes_92 rfl rfl ?_
    refine e_chk (fun h11 => ?_)
    exact e_iret (pc := 93) dX4_personComes_93 rfl (a_nb (Decidable.not_not.mp h11))
  · refine e_aload_n (pc := 50) dX4_personComes_50 rfl rfl ?_
    refine e_getR (pc := 51) dX4_personComes_51 hs_X4_31 (fun r12 => ?_)
    refine e_iload_n (pc := 54) dX4_personComes_54 rfl rfl ?_
    refine e_aload_n (pc := 55) dX4_personComes_55 rfl rfl ?_
    refine e_getR (pc := 56) dX4_personComes_56 hs_X4_62 (fun r13 => ?_)
    refine e_iload_n (pc := 59) dX4_personComes_59 rfl rfl ?_
    refine e_iconst (pc := 60) dX4_personComes_60 kc_1 ?_
    refine e_iadd (pc := 61) dX4_personComes_61 ?_
    refine e_iald (pc := 62) dX4_personComes_62 (fun x14 => ?_)
    refine e_iast (pc := 63) dX4_personComes_63 (fun w15 => ?_)
    refine e_aload_n (pc := 64) dX4_personComes_64 rfl rfl ?_
    refine e_getR (pc := 65) dX4_personComes_65 hs_X4_28 (fun r16 => ?_)
    refine e_iload_n (pc := 68) dX4_personComes_68 rfl rfl ?_
    refine e_aload_n (pc := 69) dX4_personComes_69 rfl rfl ?_
    refine e_getR (pc := 70) dX4_personComes_70 hs_X4_62 (fun r17 => ?_)
    refine e_iload_n (pc := 73) dX4_personComes_73 rfl rfl ?_
    refine e_iconst (pc := 74) dX4_personComes_74 kc_2 ?_
    refine e_iadd (pc := 75) dX4_personComes_75 ?_
    refine e_iald (pc := 76) dX4_personComes_76 (fun x18 => ?_)
    refine e_iast (pc := 77) dX4_personComes_77 (fun w19 => ?_)
    refine e_aload_n (pc := 78) dX4_personComes_78 rfl rfl ?_
    refine e_getR (pc := 79) dX4_personComes_79 hs_X4_25 (fun r20 => ?_)
    refine e_iload_n (pc := 82) dX4_personComes_82 rfl rfl ?_
    refine e_aload_n (pc := 83) dX4_personComes_83 rfl rfl ?_
    refine e_getR (pc := 84) dX4_personComes_84 hs_X4_62 (fun r21 => ?_)
    refine e_iload_n (pc := 87) dX4_personComes_87 rfl rfl ?_
    refine e_iconst (pc := 88) dX4_personComes_88 kc_3 ?_
    refine e_iadd (pc := 89) dX4_personComes_89 ?_
    refine e_iald (pc := 90) dX4_personComes_90 (fun x22 => ?_)
    refine e_iast (pc := 91) dX4_personComes_91 (fun w23 => ?_)
    refine e_iload_n (pc := 92) dX4_personComes_92 rfl rfl ?_
    refine e_chk (fun h24 => ?_)
    exact e_iret (pc := 93) dX4_personComes_93 rfl (a_nb (Decidable.not_not.mp h24))
def f_X4_personComes (a0 : Nat) (a1 : Int32) (w : aW) : Option (Int32 × aW) :=
  (gR 3 w a0 26).bind fun r1 =>
  (gA w r1 a1).bind fun x2 =>
  bk (f_X4_isPerson x2 w) fun x4 w3 =>
  if x4 = (0 : Int32) then
    c_X4_personComes_45 a0 a1 x2 (0 : Int32) w3
  else
    (gR 3 w3 a0 26).bind fun r5 =>
    (gA w3 r5 (a1 + (1 : Int32))).bind fun x6 =>
    if (4 : Int32) ≤ x6 then
      c_X4_personComes_45 a0 a1 x2 (0 : Int32) w3
    else
      (gR 3 w3 a0 26).bind fun r7 =>
      (gA w3 r7 (a1 + (2 : Int32))).bind fun x8 =>
      bk (f_X4_isPlace x8 w3) fun x10 w9 =>
      if x10 = (0 : Int32) then
        c_X4_personComes_45 a0 a1 x2 (0 : Int32) w9
      else
        c_X4_personComes_45 a0 a1 x2 (1 : Int32) w9
theorem s_X4_personComes (a0 : Nat) (a1 : Int32) (w : aW) : Sp rvI M_X4_personComes [.ref a0, .int a1] w (f_X4_personComes a0 a1 w) := by
  refine e_entry [some (.ref a0), some (.int a1), none, none] (by decide +kernel) (Nat.le_of_ble_eq_true rfl) (fun _ => rfl) ?_
  unfold f_X4_personComes
  refine e_aload_n (pc := 0) dX4_personComes_0 rfl rfl ?_
  refine e_getR (pc := 1) dX4_personComes_1 hs_X4_62 (fun r1 => ?_)
  refine e_iload_n (pc := 4) dX4_personComes_4 rfl rfl ?_
  refine e_iald (pc := 5) dX4_personComes_5 (fun x2 => ?_)
  refine e_istore_n (L' := [some (.ref a0), some (.int a1), some (.int x2), none]) (pc := 6) dX4_personComes_6 rfl (by decide) rfl ?_
  refine e_iload_n (pc := 7) dX4_personComes_7 rfl rfl ?_
  refine e_callS (pc := 8) (av := [.int x2]) (S := []) ok_X4_isPerson ⟨Nat.le_of_ble_eq_true rfl, Nat.le_of_ble_eq_true rfl⟩ ht_X4_188 dX4_personComes_8 (s_X4_isPerson x2 w) rfl rfl (Nat.le_of_ble_eq_true rfl) (fun x4 w3 => ?_)
  refine e_if_eq (pc := 11) (tgt := 44) dX4_personComes_11 (by decide) (fun _ => ?_) (fun _ => ?_)
  · refine e_iconst (pc := 44) dX4_personComes_44 kc_0 ?_
    exact t_X4_personComes_45 a0 a1 x2 (0 : Int32) w3
  · refine e_aload_n (pc := 14) dX4_personComes_14 rfl rfl ?_
    refine e_getR (pc := 15) dX4_personComes_15 hs_X4_62 (fun r5 => ?_)
    refine e_iload_n (pc := 18) dX4_personComes_18 rfl rfl ?_
    refine e_iconst (pc := 19) dX4_personComes_19 kc_1 ?_
    refine e_iadd (pc := 20) dX4_personComes_20 ?_
    refine e_iald (pc := 21) dX4_personComes_21 (fun x6 => ?_)
    refine e_iconst (pc := 22) dX4_personComes_22 kc_4 ?_
    refine e_icmp_ge (pc := 23) (tgt := 44) dX4_personComes_23 (by decide) (fun _ => ?_) (fun _ => ?_)
    · refine e_iconst (pc := 44) dX4_personComes_44 kc_0 ?_
      exact t_X4_personComes_45 a0 a1 x2 (0 : Int32) w3
    · refine e_aload_n (pc := 26) dX4_personComes_26 rfl rfl ?_
      refine e_getR (pc := 27) dX4_personComes_27 hs_X4_62 (fun r7 => ?_)
      refine e_iload_n (pc := 30) dX4_personComes_30 rfl rfl ?_
      refine e_iconst (pc := 31) dX4_personComes_31 kc_2 ?_
      refine e_iadd (pc := 32) dX4_personComes_32 ?_
      refine e_iald (pc := 33) dX4_personComes_33 (fun x8 => ?_)
      refine e_callS (pc := 34) (av := [.int x8]) (S := []) ok_X4_isPlace ⟨Nat.le_of_ble_eq_true rfl, Nat.le_of_ble_eq_true rfl⟩ ht_X4_182 dX4_personComes_34 (s_X4_isPlace x8 w3) rfl rfl (Nat.le_of_ble_eq_true rfl) (fun x10 w9 => ?_)
      refine e_if_eq (pc := 37) (tgt := 44) dX4_personComes_37 (by decide) (fun _ => ?_) (fun _ => ?_)
      · refine e_iconst (pc := 44) dX4_personComes_44 kc_0 ?_
        exact t_X4_personComes_45 a0 a1 x2 (0 : Int32) w9
      · refine e_iconst (pc := 40) dX4_personComes_40 kc_1 ?_
        refine e_goto (pc := 41) (tgt := 45) dX4_personComes_41 (by decide) ?_
        exact t_X4_personComes_45 a0 a1 x2 (1 : Int32) w9
def M_X4_callComes : aM := (yX4_callComes, cX4_callComes, 4, (some .boolean), 2, 46)
theorem ok_X4_callComes : a_okM M_X4_callComes 2 := ⟨⟨by decide +kernel, by decide +kernel⟩, by decide +kernel, a_in 1061 (by decide +kernel) rfl, a_in 79 (by decide +kernel) rfl⟩
theorem dX4_callComes_0 : decode M_X4_callComes.2.1 0 = .ok (.iload_n 1, 1) := by decide +kernel
theorem dX4_callComes_1 : decode M_X4_callComes.2.1 1 = .ok (.invokestatic 188, 3) := by decide +kernel
theorem dX4_callComes_4 : decode M_X4_callComes.2.1 4 = .ok (.ifCond .eq 26, 3) := by decide +kernel
theorem dX4_callComes_7 : decode M_X4_callComes.2.1 7 = .ok (.aload_n 0, 1) := by decide +kernel
theorem dX4_callComes_8 : decode M_X4_callComes.2.1 8 = .ok (.iload_n 2, 1) := by decide +kernel
theorem dX4_callComes_9 : decode M_X4_callComes.2.1 9 = .ok (.invokevirtual 185, 3) := by decide +kernel
theorem dX4_callComes_12 : decode M_X4_callComes.2.1 12 = .ok (.ifCond .eq 18, 3) := by decide +kernel
theorem dX4_callComes_15 : decode M_X4_callComes.2.1 15 = .ok (.aload_n 0, 1) := by decide +kernel
theorem dX4_callComes_16 : decode M_X4_callComes.2.1 16 = .ok (.getfield 107, 3) := by decide +kernel
theorem dX4_callComes_19 : decode M_X4_callComes.2.1 19 = .ok (.iload_n 2, 1) := by decide +kernel
theorem dX4_callComes_20 : decode M_X4_callComes.2.1 20 = .ok (.invokestatic 110, 3) := by decide +kernel
theorem dX4_callComes_23 : decode M_X4_callComes.2.1 23 = .ok (.ifCond .eq 7, 3) := by decide +kernel
theorem dX4_callComes_26 : decode M_X4_callComes.2.1 26 = .ok (.iconst 1, 1) := by decide +kernel
theorem dX4_callComes_27 : decode M_X4_callComes.2.1 27 = .ok (.goto 4, 3) := by decide +kernel
theorem dX4_callComes_30 : decode M_X4_callComes.2.1 30 = .ok (.iconst 0, 1) := by decide +kernel
theorem dX4_callComes_31 : decode M_X4_callComes.2.1 31 = .ok (.istore_n 3, 1) := by decide +kernel
theorem dX4_callComes_32 : decode M_X4_callComes.2.1 32 = .ok (.iload_n 3, 1) := by decide +kernel
theorem dX4_callComes_33 : decode M_X4_callComes.2.1 33 = .ok (.ifCond .eq 10, 3) := by decide +kernel
theorem dX4_callComes_36 : decode M_X4_callComes.2.1 36 = .ok (.aload_n 0, 1) := by decide +kernel
theorem dX4_callComes_37 : decode M_X4_callComes.2.1 37 = .ok (.getfield 22, 3) := by decide +kernel
theorem dX4_callComes_40 : decode M_X4_callComes.2.1 40 = .ok (.iload_n 2, 1) := by decide +kernel
theorem dX4_callComes_41 : decode M_X4_callComes.2.1 41 = .ok (.iload_n 1, 1) := by decide +kernel
theorem dX4_callComes_42 : decode M_X4_callComes.2.1 42 = .ok (.iastore, 1) := by decide +kernel
theorem dX4_callComes_43 : decode M_X4_callComes.2.1 43 = .ok (.iload_n 3, 1) := by decide +kernel
theorem dX4_callComes_44 : decode M_X4_callComes.2.1 44 = .ok (.ireturn, 1) := by decide +kernel
def c_X4_callComes_31 (a0 : Nat) (a1 : Int32) (a2 : Int32) (s0 : Int32) (w : aW) : Option (Int32 × aW) :=
  if s0 = (0 : Int32) then
    if ¬ (s0 = 0 ∨ s0 = 1) then none else some (s0, w)
  else
    (gR 3 w a0 5).bind fun r9 =>
    (sA w r9 a2 a1).bind fun w10 =>
    if ¬ (s0 = 0 ∨ s0 = 1) then none else some (s0, w10)
theorem t_X4_callComes_31 (a0 : Nat) (a1 : Int32) (a2 : Int32) (s0 : Int32) (w : aW) : Ev rvI M_X4_callComes 31 [some (.ref a0), some (.int a1), some (.int a2), none] [.int s0] w (c_X4_callComes_31 a0 a1 a2 s0 w) := by
  unfold c_X4_callComes_31
  refine e_istore_n (L' := [some (.ref a0), some (.int a1), some (.int a2), some (.int s0)]) (pc := 31) dX4_callComes_31 rfl (by decide) rfl ?_
  refine e_iload_n (pc := 32) dX4_callComes_32 rfl rfl ?_
  refine e_if_eq (pc := 33) (tgt := 43) dX4_callComes_33 (by decide) (fun _ => ?_) (fun _ => ?_)
  · refine e_iload_n (pc := 43) dX4_callComes_43 rfl rfl ?_
    refine e_chk (fun h8 => ?_)
    exact e_iret (pc := 44) dX4_callComes_44 rfl (a_nb (Decidable.not_not.mp h8))
  · refine e_aload_n (pc := 36) dX4_callComes_36 rfl rfl ?_
    refine e_getR (pc := 37) dX4_callComes_37 hs_X4_22 (fun r9 => ?_)
    refine e_iload_n (pc := 40) dX4_callComes_40 rfl rfl ?_
    refine e_iload_n (pc := 41) dX4_callComes_41 rfl rfl ?_
    refine e_iast (pc := 42) dX4_callComes_42 (fun w10 => ?_)
    refine e_iload_n (pc := 43) dX4_callComes_43 rfl rfl ?_
    refine e_chk (fun h11 => ?_)
    exact e_iret (pc := 44) dX4_callComes_44 rfl (a_nb (Decidable.not_not.mp h11))
def f_X4_callComes (a0 : Nat) (a1 : Int32) (a2 : Int32) (w : aW) : Option (Int32 × aW) :=
  bk (f_X4_isPerson a1 w) fun x2 w1 =>
  if x2 = (0 : Int32) then
    c_X4_callComes_31 a0 a1 a2 (0 : Int32) w1
  else
    cV 3 w1 a0 (bk (f_X4_isBeast a0 a2 w1) fun x4 w3 =>
    if x4 = (0 : Int32) then
      c_X4_callComes_31 a0 a1 a2 (0 : Int32) w3
    else
      (gI 3 w3 a0 6).bind fun x5 =>
      bk (f_X4_hasBit x5 a2 w3) fun x7 w6 =>
      if x7 = (0 : Int32) then
        c_X4_callComes_31 a0 a1 a2 (0 : Int32) w6
      else
        c_X4_callComes_31 a0 a1 a2 (1 : Int32) w6)
theorem s_X4_callComes (a0 : Nat) (a1 : Int32) (a2 : Int32) (w : aW) : Sp rvI M_X4_callComes [.ref a0, .int a1, .int a2] w (f_X4_callComes a0 a1 a2 w) := by
  refine e_entry [some (.ref a0), some (.int a1), some (.int a2), none] (by decide +kernel) (Nat.le_of_ble_eq_true rfl) (fun _ => rfl) ?_
  unfold f_X4_callComes
  refine e_iload_n (pc := 0) dX4_callComes_0 rfl rfl ?_
  refine e_callS (pc := 1) (av := [.int a1]) (S := []) ok_X4_isPerson ⟨Nat.le_of_ble_eq_true rfl, Nat.le_of_ble_eq_true rfl⟩ ht_X4_188 dX4_callComes_1 (s_X4_isPerson a1 w) rfl rfl (Nat.le_of_ble_eq_true rfl) (fun x2 w1 => ?_)
  refine e_if_eq (pc := 4) (tgt := 30) dX4_callComes_4 (by decide) (fun _ => ?_) (fun _ => ?_)
  · refine e_iconst (pc := 30) dX4_callComes_30 kc_0 ?_
    exact t_X4_callComes_31 a0 a1 a2 (0 : Int32) w1
  · refine e_aload_n (pc := 7) dX4_callComes_7 rfl rfl ?_
    refine e_iload_n (pc := 8) dX4_callComes_8 rfl rfl ?_
    refine e_callV (pc := 9) (av := [.int a2]) (S := []) (c0 := 3) rfl rfl ok_X4_isBeast ⟨Nat.le_of_ble_eq_true rfl, Nat.le_of_ble_eq_true rfl⟩ hv_X4_185 dX4_callComes_9 (s_X4_isBeast a0 a2 w1) rfl rfl (Nat.le_of_ble_eq_true rfl) (fun x4 w3 => ?_)
    refine e_if_eq (pc := 12) (tgt := 30) dX4_callComes_12 (by decide) (fun _ => ?_) (fun _ => ?_)
    · refine e_iconst (pc := 30) dX4_callComes_30 kc_0 ?_
      exact t_X4_callComes_31 a0 a1 a2 (0 : Int32) w3
    · refine e_aload_n (pc := 15) dX4_callComes_15 rfl rfl ?_
      refine e_getI (pc := 16) dX4_callComes_16 hs_X4_107 (fun x5 => ?_)
      refine e_iload_n (pc := 19) dX4_callComes_19 rfl rfl ?_
      refine e_callS (pc := 20) (av := [.int x5, .int a2]) (S := []) ok_X4_hasBit ⟨Nat.le_of_ble_eq_true rfl, Nat.le_of_ble_eq_true rfl⟩ ht_X4_110 dX4_callComes_20 (s_X4_hasBit x5 a2 w3) rfl rfl (Nat.le_of_ble_eq_true rfl) (fun x7 w6 => ?_)
      refine e_if_eq (pc := 23) (tgt := 30) dX4_callComes_23 (by decide) (fun _ => ?_) (fun _ => ?_)
      · refine e_iconst (pc := 30) dX4_callComes_30 kc_0 ?_
        exact t_X4_callComes_31 a0 a1 a2 (0 : Int32) w6
      · refine e_iconst (pc := 26) dX4_callComes_26 kc_1 ?_
        refine e_goto (pc := 27) (tgt := 31) dX4_callComes_27 (by decide) ?_
        exact t_X4_callComes_31 a0 a1 a2 (1 : Int32) w6
def M_X4_letComes : aM := (yX4_letComes, cX4_letComes, 3, (some .boolean), 2, 46)
theorem ok_X4_letComes : a_okM M_X4_letComes 1 := ⟨⟨by decide +kernel, by decide +kernel⟩, by decide +kernel, a_in 1065 (by decide +kernel) rfl, a_in 79 (by decide +kernel) rfl⟩
theorem dX4_letComes_0 : decode M_X4_letComes.2.1 0 = .ok (.aload_n 0, 1) := by decide +kernel
theorem dX4_letComes_1 : decode M_X4_letComes.2.1 1 = .ok (.iload_n 1, 1) := by decide +kernel
theorem dX4_letComes_2 : decode M_X4_letComes.2.1 2 = .ok (.invokevirtual 185, 3) := by decide +kernel
theorem dX4_letComes_5 : decode M_X4_letComes.2.1 5 = .ok (.ifCond .eq 16, 3) := by decide +kernel
theorem dX4_letComes_8 : decode M_X4_letComes.2.1 8 = .ok (.aload_n 0, 1) := by decide +kernel
theorem dX4_letComes_9 : decode M_X4_letComes.2.1 9 = .ok (.getfield 22, 3) := by decide +kernel
theorem dX4_letComes_12 : decode M_X4_letComes.2.1 12 = .ok (.iload_n 1, 1) := by decide +kernel
theorem dX4_letComes_13 : decode M_X4_letComes.2.1 13 = .ok (.iaload, 1) := by decide +kernel
theorem dX4_letComes_14 : decode M_X4_letComes.2.1 14 = .ok (.ifCond .lt 7, 3) := by decide +kernel
theorem dX4_letComes_17 : decode M_X4_letComes.2.1 17 = .ok (.iconst 1, 1) := by decide +kernel
theorem dX4_letComes_18 : decode M_X4_letComes.2.1 18 = .ok (.goto 4, 3) := by decide +kernel
theorem dX4_letComes_21 : decode M_X4_letComes.2.1 21 = .ok (.iconst 0, 1) := by decide +kernel
theorem dX4_letComes_22 : decode M_X4_letComes.2.1 22 = .ok (.istore_n 2, 1) := by decide +kernel
theorem dX4_letComes_23 : decode M_X4_letComes.2.1 23 = .ok (.iload_n 2, 1) := by decide +kernel
theorem dX4_letComes_24 : decode M_X4_letComes.2.1 24 = .ok (.ifCond .eq 11, 3) := by decide +kernel
theorem dX4_letComes_27 : decode M_X4_letComes.2.1 27 = .ok (.aload_n 0, 1) := by decide +kernel
theorem dX4_letComes_28 : decode M_X4_letComes.2.1 28 = .ok (.getfield 22, 3) := by decide +kernel
theorem dX4_letComes_31 : decode M_X4_letComes.2.1 31 = .ok (.iload_n 1, 1) := by decide +kernel
theorem dX4_letComes_32 : decode M_X4_letComes.2.1 32 = .ok (.bipush (-4), 2) := by decide +kernel
theorem dX4_letComes_34 : decode M_X4_letComes.2.1 34 = .ok (.iastore, 1) := by decide +kernel
theorem dX4_letComes_35 : decode M_X4_letComes.2.1 35 = .ok (.iload_n 2, 1) := by decide +kernel
theorem dX4_letComes_36 : decode M_X4_letComes.2.1 36 = .ok (.ireturn, 1) := by decide +kernel
def c_X4_letComes_22 (a0 : Nat) (a1 : Int32) (s0 : Int32) (w : aW) : Option (Int32 × aW) :=
  if s0 = (0 : Int32) then
    if ¬ (s0 = 0 ∨ s0 = 1) then none else some (s0, w)
  else
    (gR 3 w a0 5).bind fun r6 =>
    (sA w r6 a1 (-4 : Int32)).bind fun w7 =>
    if ¬ (s0 = 0 ∨ s0 = 1) then none else some (s0, w7)
theorem t_X4_letComes_22 (a0 : Nat) (a1 : Int32) (s0 : Int32) (w : aW) : Ev rvI M_X4_letComes 22 [some (.ref a0), some (.int a1), none] [.int s0] w (c_X4_letComes_22 a0 a1 s0 w) := by
  unfold c_X4_letComes_22
  refine e_istore_n (L' := [some (.ref a0), some (.int a1), some (.int s0)]) (pc := 22) dX4_letComes_22 rfl (by decide) rfl ?_
  refine e_iload_n (pc := 23) dX4_letComes_23 rfl rfl ?_
  refine e_if_eq (pc := 24) (tgt := 35) dX4_letComes_24 (by decide) (fun _ => ?_) (fun _ => ?_)
  · refine e_iload_n (pc := 35) dX4_letComes_35 rfl rfl ?_
    refine e_chk (fun h5 => ?_)
    exact e_iret (pc := 36) dX4_letComes_36 rfl (a_nb (Decidable.not_not.mp h5))
  · refine e_aload_n (pc := 27) dX4_letComes_27 rfl rfl ?_
    refine e_getR (pc := 28) dX4_letComes_28 hs_X4_22 (fun r6 => ?_)
    refine e_iload_n (pc := 31) dX4_letComes_31 rfl rfl ?_
    refine e_bipush (pc := 32) dX4_letComes_32 kb_m4 ?_
    refine e_iast (pc := 34) dX4_letComes_34 (fun w7 => ?_)
    refine e_iload_n (pc := 35) dX4_letComes_35 rfl rfl ?_
    refine e_chk (fun h8 => ?_)
    exact e_iret (pc := 36) dX4_letComes_36 rfl (a_nb (Decidable.not_not.mp h8))
def f_X4_letComes (a0 : Nat) (a1 : Int32) (w : aW) : Option (Int32 × aW) :=
  cV 3 w a0 (bk (f_X4_isBeast a0 a1 w) fun x2 w1 =>
  if x2 = (0 : Int32) then
    c_X4_letComes_22 a0 a1 (0 : Int32) w1
  else
    (gR 3 w1 a0 5).bind fun r3 =>
    (gA w1 r3 a1).bind fun x4 =>
    if x4 < (0 : Int32) then
      c_X4_letComes_22 a0 a1 (0 : Int32) w1
    else
      c_X4_letComes_22 a0 a1 (1 : Int32) w1)
theorem s_X4_letComes (a0 : Nat) (a1 : Int32) (w : aW) : Sp rvI M_X4_letComes [.ref a0, .int a1] w (f_X4_letComes a0 a1 w) := by
  refine e_entry [some (.ref a0), some (.int a1), none] (by decide +kernel) (Nat.le_of_ble_eq_true rfl) (fun _ => rfl) ?_
  unfold f_X4_letComes
  refine e_aload_n (pc := 0) dX4_letComes_0 rfl rfl ?_
  refine e_iload_n (pc := 1) dX4_letComes_1 rfl rfl ?_
  refine e_callV (pc := 2) (av := [.int a1]) (S := []) (c0 := 3) rfl rfl ok_X4_isBeast ⟨Nat.le_of_ble_eq_true rfl, Nat.le_of_ble_eq_true rfl⟩ hv_X4_185 dX4_letComes_2 (s_X4_isBeast a0 a1 w) rfl rfl (Nat.le_of_ble_eq_true rfl) (fun x2 w1 => ?_)
  refine e_if_eq (pc := 5) (tgt := 21) dX4_letComes_5 (by decide) (fun _ => ?_) (fun _ => ?_)
  · refine e_iconst (pc := 21) dX4_letComes_21 kc_0 ?_
    exact t_X4_letComes_22 a0 a1 (0 : Int32) w1
  · refine e_aload_n (pc := 8) dX4_letComes_8 rfl rfl ?_
    refine e_getR (pc := 9) dX4_letComes_9 hs_X4_22 (fun r3 => ?_)
    refine e_iload_n (pc := 12) dX4_letComes_12 rfl rfl ?_
    refine e_iald (pc := 13) dX4_letComes_13 (fun x4 => ?_)
    refine e_if_lt (pc := 14) (tgt := 21) dX4_letComes_14 (by decide) (fun _ => ?_) (fun _ => ?_)
    · refine e_iconst (pc := 21) dX4_letComes_21 kc_0 ?_
      exact t_X4_letComes_22 a0 a1 (0 : Int32) w1
    · refine e_iconst (pc := 17) dX4_letComes_17 kc_1 ?_
      refine e_goto (pc := 18) (tgt := 22) dX4_letComes_18 (by decide) ?_
      exact t_X4_letComes_22 a0 a1 (1 : Int32) w1
def M_X4_daysCome : aM := (yX4_daysCome, cX4_daysCome, 3, (some .boolean), 6, 135)
theorem ok_X4_daysCome : a_okM M_X4_daysCome 1 := ⟨⟨by decide +kernel, by decide +kernel⟩, by decide +kernel, a_in 1069 (by decide +kernel) rfl, a_in 79 (by decide +kernel) rfl⟩
theorem dX4_daysCome_0 : decode M_X4_daysCome.2.1 0 = .ok (.iload_n 1, 1) := by decide +kernel
theorem dX4_daysCome_1 : decode M_X4_daysCome.2.1 1 = .ok (.i2l, 1) := by decide +kernel
theorem dX4_daysCome_2 : decode M_X4_daysCome.2.1 2 = .ok (.lconst 1, 1) := by decide +kernel
theorem dX4_daysCome_3 : decode M_X4_daysCome.2.1 3 = .ok (.ldc2_w 191, 3) := by decide +kernel
theorem dX4_daysCome_6 : decode M_X4_daysCome.2.1 6 = .ok (.invokestatic 86, 3) := by decide +kernel
theorem dX4_daysCome_9 : decode M_X4_daysCome.2.1 9 = .ok (.ifCond .eq 19, 3) := by decide +kernel
theorem dX4_daysCome_12 : decode M_X4_daysCome.2.1 12 = .ok (.aload_n 0, 1) := by decide +kernel
theorem dX4_daysCome_13 : decode M_X4_daysCome.2.1 13 = .ok (.getfield 124, 3) := by decide +kernel
theorem dX4_daysCome_16 : decode M_X4_daysCome.2.1 16 = .ok (.iload_n 1, 1) := by decide +kernel
theorem dX4_daysCome_17 : decode M_X4_daysCome.2.1 17 = .ok (.iadd, 1) := by decide +kernel
theorem dX4_daysCome_18 : decode M_X4_daysCome.2.1 18 = .ok (.sipush 999, 3) := by decide +kernel
theorem dX4_daysCome_21 : decode M_X4_daysCome.2.1 21 = .ok (.if_icmp .gt 7, 3) := by decide +kernel
theorem dX4_daysCome_24 : decode M_X4_daysCome.2.1 24 = .ok (.iconst 1, 1) := by decide +kernel
theorem dX4_daysCome_25 : decode M_X4_daysCome.2.1 25 = .ok (.goto 4, 3) := by decide +kernel
theorem dX4_daysCome_28 : decode M_X4_daysCome.2.1 28 = .ok (.iconst 0, 1) := by decide +kernel
theorem dX4_daysCome_29 : decode M_X4_daysCome.2.1 29 = .ok (.istore_n 2, 1) := by decide +kernel
theorem dX4_daysCome_30 : decode M_X4_daysCome.2.1 30 = .ok (.iload_n 2, 1) := by decide +kernel
theorem dX4_daysCome_31 : decode M_X4_daysCome.2.1 31 = .ok (.ifCond .eq 8, 3) := by decide +kernel
theorem dX4_daysCome_34 : decode M_X4_daysCome.2.1 34 = .ok (.aload_n 0, 1) := by decide +kernel
theorem dX4_daysCome_35 : decode M_X4_daysCome.2.1 35 = .ok (.iload_n 1, 1) := by decide +kernel
theorem dX4_daysCome_36 : decode M_X4_daysCome.2.1 36 = .ok (.invokevirtual 193, 3) := by decide +kernel
theorem dX4_daysCome_39 : decode M_X4_daysCome.2.1 39 = .ok (.iload_n 2, 1) := by decide +kernel
theorem dX4_daysCome_40 : decode M_X4_daysCome.2.1 40 = .ok (.ireturn, 1) := by decide +kernel
theorem hv_X4_193 : a_okV RX4 M_X4_goDays 193 := ⟨a_in 1071 (by decide +kernel) rfl, a_in 1073 (by decide +kernel) rfl, a_in 38 (by decide +kernel) rfl⟩
def c_X4_daysCome_29 (a0 : Nat) (a1 : Int32) (s0 : Int32) (w : aW) : Option (Int32 × aW) :=
  if s0 = (0 : Int32) then
    if ¬ (s0 = 0 ∨ s0 = 1) then none else some (s0, w)
  else
    cV 3 w a0 (bk (f_X4_goDays a0 a1 w) fun _ w5 =>
    if ¬ (s0 = 0 ∨ s0 = 1) then none else some (s0, w5))
theorem t_X4_daysCome_29 (a0 : Nat) (a1 : Int32) (s0 : Int32) (w : aW) : Ev rvI M_X4_daysCome 29 [some (.ref a0), some (.int a1), none] [.int s0] w (c_X4_daysCome_29 a0 a1 s0 w) := by
  unfold c_X4_daysCome_29
  refine e_istore_n (L' := [some (.ref a0), some (.int a1), some (.int s0)]) (pc := 29) dX4_daysCome_29 rfl (by decide) rfl ?_
  refine e_iload_n (pc := 30) dX4_daysCome_30 rfl rfl ?_
  refine e_if_eq (pc := 31) (tgt := 39) dX4_daysCome_31 (by decide) (fun _ => ?_) (fun _ => ?_)
  · refine e_iload_n (pc := 39) dX4_daysCome_39 rfl rfl ?_
    refine e_chk (fun h4 => ?_)
    exact e_iret (pc := 40) dX4_daysCome_40 rfl (a_nb (Decidable.not_not.mp h4))
  · refine e_aload_n (pc := 34) dX4_daysCome_34 rfl rfl ?_
    refine e_iload_n (pc := 35) dX4_daysCome_35 rfl rfl ?_
    refine e_callV (pc := 36) (av := [.int a1]) (S := []) (c0 := 3) rfl rfl ok_X4_goDays ⟨Nat.le_of_ble_eq_true rfl, Nat.le_of_ble_eq_true rfl⟩ hv_X4_193 dX4_daysCome_36 (s_X4_goDays a0 a1 w) rfl rfl (Nat.le_of_ble_eq_true rfl) (fun _ w5 => ?_)
    refine e_iload_n (pc := 39) dX4_daysCome_39 rfl rfl ?_
    refine e_chk (fun h6 => ?_)
    exact e_iret (pc := 40) dX4_daysCome_40 rfl (a_nb (Decidable.not_not.mp h6))
def f_X4_daysCome (a0 : Nat) (a1 : Int32) (w : aW) : Option (Int32 × aW) :=
  bk (f_X4_in a1.toInt64 (1 : Int64) (60 : Int64) w) fun x2 w1 =>
  if x2 = (0 : Int32) then
    c_X4_daysCome_29 a0 a1 (0 : Int32) w1
  else
    (gI 3 w1 a0 11).bind fun x3 =>
    if (999 : Int32) < (x3 + a1) then
      c_X4_daysCome_29 a0 a1 (0 : Int32) w1
    else
      c_X4_daysCome_29 a0 a1 (1 : Int32) w1
theorem s_X4_daysCome (a0 : Nat) (a1 : Int32) (w : aW) : Sp rvI M_X4_daysCome [.ref a0, .int a1] w (f_X4_daysCome a0 a1 w) := by
  refine e_entry [some (.ref a0), some (.int a1), none] (by decide +kernel) (Nat.le_of_ble_eq_true rfl) (fun _ => rfl) ?_
  unfold f_X4_daysCome
  refine e_iload_n (pc := 0) dX4_daysCome_0 rfl rfl ?_
  refine e_i2l (pc := 1) dX4_daysCome_1 ?_
  refine e_lconst (pc := 2) (v := 1) dX4_daysCome_2 (by decide) ?_
  refine e_ldc2 (pc := 3) (v := 60) dX4_daysCome_3 (a_in 1070 (by decide +kernel) rfl) ?_
  refine e_callS (pc := 6) (av := [.long a1.toInt64, .long (1 : Int64), .long (60 : Int64)]) (S := []) ok_X4_in ⟨Nat.le_of_ble_eq_true rfl, Nat.le_of_ble_eq_true rfl⟩ ht_X4_86 dX4_daysCome_6 (s_X4_in a1.toInt64 (1 : Int64) (60 : Int64) w) rfl rfl (Nat.le_of_ble_eq_true rfl) (fun x2 w1 => ?_)
  refine e_if_eq (pc := 9) (tgt := 28) dX4_daysCome_9 (by decide) (fun _ => ?_) (fun _ => ?_)
  · refine e_iconst (pc := 28) dX4_daysCome_28 kc_0 ?_
    exact t_X4_daysCome_29 a0 a1 (0 : Int32) w1
  · refine e_aload_n (pc := 12) dX4_daysCome_12 rfl rfl ?_
    refine e_getI (pc := 13) dX4_daysCome_13 hs_X4_124 (fun x3 => ?_)
    refine e_iload_n (pc := 16) dX4_daysCome_16 rfl rfl ?_
    refine e_iadd (pc := 17) dX4_daysCome_17 ?_
    refine e_sipush (pc := 18) dX4_daysCome_18 ks_999 ?_
    refine e_icmp_gt (pc := 21) (tgt := 28) dX4_daysCome_21 (by decide) (fun _ => ?_) (fun _ => ?_)
    · refine e_iconst (pc := 28) dX4_daysCome_28 kc_0 ?_
      exact t_X4_daysCome_29 a0 a1 (0 : Int32) w1
    · refine e_iconst (pc := 24) dX4_daysCome_24 kc_1 ?_
      refine e_goto (pc := 25) (tgt := 29) dX4_daysCome_25 (by decide) ?_
      exact t_X4_daysCome_29 a0 a1 (1 : Int32) w1
def M_X4_comesTold : aM := (yX4_comesTold, cX4_comesTold, 3, (some .boolean), 7, 157)
theorem ok_X4_comesTold : a_okM M_X4_comesTold 1 := ⟨⟨by decide +kernel, by decide +kernel⟩, by decide +kernel, a_in 1030 (by decide +kernel) rfl, a_in 79 (by decide +kernel) rfl⟩
theorem dX4_comesTold_0 : decode M_X4_comesTold.2.1 0 = .ok (.aload_n 0, 1) := by decide +kernel
theorem dX4_comesTold_1 : decode M_X4_comesTold.2.1 1 = .ok (.getfield 62, 3) := by decide +kernel
theorem dX4_comesTold_4 : decode M_X4_comesTold.2.1 4 = .ok (.iconst 4, 1) := by decide +kernel
theorem dX4_comesTold_5 : decode M_X4_comesTold.2.1 5 = .ok (.iload_n 1, 1) := by decide +kernel
theorem dX4_comesTold_6 : decode M_X4_comesTold.2.1 6 = .ok (.imul, 1) := by decide +kernel
theorem dX4_comesTold_7 : decode M_X4_comesTold.2.1 7 = .ok (.iaload, 1) := by decide +kernel
theorem dX4_comesTold_8 : decode M_X4_comesTold.2.1 8 = .ok (.istore_n 2, 1) := by decide +kernel
theorem dX4_comesTold_9 : decode M_X4_comesTold.2.1 9 = .ok (.aload_n 0, 1) := by decide +kernel
theorem dX4_comesTold_10 : decode M_X4_comesTold.2.1 10 = .ok (.getfield 59, 3) := by decide +kernel
theorem dX4_comesTold_13 : decode M_X4_comesTold.2.1 13 = .ok (.iload_n 1, 1) := by decide +kernel
theorem dX4_comesTold_14 : decode M_X4_comesTold.2.1 14 = .ok (.iaload, 1) := by decide +kernel
theorem dX4_comesTold_15 : decode M_X4_comesTold.2.1 15 = .ok (.lookupswitch 121 #[(98, 49), (99, 99), (103, 75), (112, 91), (117, 115)], 49) := by decide +kernel
theorem dX4_comesTold_64 : decode M_X4_comesTold.2.1 64 = .ok (.aload_n 0, 1) := by decide +kernel
theorem dX4_comesTold_65 : decode M_X4_comesTold.2.1 65 = .ok (.iload_n 2, 1) := by decide +kernel
theorem dX4_comesTold_66 : decode M_X4_comesTold.2.1 66 = .ok (.aload_n 0, 1) := by decide +kernel
theorem dX4_comesTold_67 : decode M_X4_comesTold.2.1 67 = .ok (.getfield 62, 3) := by decide +kernel
theorem dX4_comesTold_70 : decode M_X4_comesTold.2.1 70 = .ok (.iconst 4, 1) := by decide +kernel
theorem dX4_comesTold_71 : decode M_X4_comesTold.2.1 71 = .ok (.iload_n 1, 1) := by decide +kernel
theorem dX4_comesTold_72 : decode M_X4_comesTold.2.1 72 = .ok (.imul, 1) := by decide +kernel
theorem dX4_comesTold_73 : decode M_X4_comesTold.2.1 73 = .ok (.iconst 1, 1) := by decide +kernel
theorem dX4_comesTold_74 : decode M_X4_comesTold.2.1 74 = .ok (.iadd, 1) := by decide +kernel
theorem dX4_comesTold_75 : decode M_X4_comesTold.2.1 75 = .ok (.iaload, 1) := by decide +kernel
theorem dX4_comesTold_76 : decode M_X4_comesTold.2.1 76 = .ok (.aload_n 0, 1) := by decide +kernel
theorem dX4_comesTold_77 : decode M_X4_comesTold.2.1 77 = .ok (.getfield 62, 3) := by decide +kernel
theorem dX4_comesTold_80 : decode M_X4_comesTold.2.1 80 = .ok (.iconst 4, 1) := by decide +kernel
theorem dX4_comesTold_81 : decode M_X4_comesTold.2.1 81 = .ok (.iload_n 1, 1) := by decide +kernel
theorem dX4_comesTold_82 : decode M_X4_comesTold.2.1 82 = .ok (.imul, 1) := by decide +kernel
theorem dX4_comesTold_83 : decode M_X4_comesTold.2.1 83 = .ok (.iconst 2, 1) := by decide +kernel
theorem dX4_comesTold_84 : decode M_X4_comesTold.2.1 84 = .ok (.iadd, 1) := by decide +kernel
theorem dX4_comesTold_85 : decode M_X4_comesTold.2.1 85 = .ok (.iaload, 1) := by decide +kernel
theorem dX4_comesTold_86 : decode M_X4_comesTold.2.1 86 = .ok (.invokevirtual 196, 3) := by decide +kernel
theorem dX4_comesTold_89 : decode M_X4_comesTold.2.1 89 = .ok (.ireturn, 1) := by decide +kernel
theorem dX4_comesTold_90 : decode M_X4_comesTold.2.1 90 = .ok (.aload_n 0, 1) := by decide +kernel
theorem dX4_comesTold_91 : decode M_X4_comesTold.2.1 91 = .ok (.iload_n 2, 1) := by decide +kernel
theorem dX4_comesTold_92 : decode M_X4_comesTold.2.1 92 = .ok (.aload_n 0, 1) := by decide +kernel
theorem dX4_comesTold_93 : decode M_X4_comesTold.2.1 93 = .ok (.getfield 62, 3) := by decide +kernel
theorem dX4_comesTold_96 : decode M_X4_comesTold.2.1 96 = .ok (.iconst 4, 1) := by decide +kernel
theorem dX4_comesTold_97 : decode M_X4_comesTold.2.1 97 = .ok (.iload_n 1, 1) := by decide +kernel
theorem dX4_comesTold_98 : decode M_X4_comesTold.2.1 98 = .ok (.imul, 1) := by decide +kernel
theorem dX4_comesTold_99 : decode M_X4_comesTold.2.1 99 = .ok (.iconst 2, 1) := by decide +kernel
theorem dX4_comesTold_100 : decode M_X4_comesTold.2.1 100 = .ok (.iadd, 1) := by decide +kernel
theorem dX4_comesTold_101 : decode M_X4_comesTold.2.1 101 = .ok (.iaload, 1) := by decide +kernel
theorem dX4_comesTold_102 : decode M_X4_comesTold.2.1 102 = .ok (.invokevirtual 200, 3) := by decide +kernel
theorem dX4_comesTold_105 : decode M_X4_comesTold.2.1 105 = .ok (.ireturn, 1) := by decide +kernel
theorem dX4_comesTold_106 : decode M_X4_comesTold.2.1 106 = .ok (.aload_n 0, 1) := by decide +kernel
theorem dX4_comesTold_107 : decode M_X4_comesTold.2.1 107 = .ok (.iconst 4, 1) := by decide +kernel
theorem dX4_comesTold_108 : decode M_X4_comesTold.2.1 108 = .ok (.iload_n 1, 1) := by decide +kernel
theorem dX4_comesTold_109 : decode M_X4_comesTold.2.1 109 = .ok (.imul, 1) := by decide +kernel
theorem dX4_comesTold_110 : decode M_X4_comesTold.2.1 110 = .ok (.invokevirtual 203, 3) := by decide +kernel
theorem dX4_comesTold_113 : decode M_X4_comesTold.2.1 113 = .ok (.ireturn, 1) := by decide +kernel
theorem dX4_comesTold_114 : decode M_X4_comesTold.2.1 114 = .ok (.aload_n 0, 1) := by decide +kernel
theorem dX4_comesTold_115 : decode M_X4_comesTold.2.1 115 = .ok (.iload_n 2, 1) := by decide +kernel
theorem dX4_comesTold_116 : decode M_X4_comesTold.2.1 116 = .ok (.aload_n 0, 1) := by decide +kernel
theorem dX4_comesTold_117 : decode M_X4_comesTold.2.1 117 = .ok (.getfield 62, 3) := by decide +kernel
theorem dX4_comesTold_120 : decode M_X4_comesTold.2.1 120 = .ok (.iconst 4, 1) := by decide +kernel
theorem dX4_comesTold_121 : decode M_X4_comesTold.2.1 121 = .ok (.iload_n 1, 1) := by decide +kernel
theorem dX4_comesTold_122 : decode M_X4_comesTold.2.1 122 = .ok (.imul, 1) := by decide +kernel
theorem dX4_comesTold_123 : decode M_X4_comesTold.2.1 123 = .ok (.iconst 1, 1) := by decide +kernel
theorem dX4_comesTold_124 : decode M_X4_comesTold.2.1 124 = .ok (.iadd, 1) := by decide +kernel
theorem dX4_comesTold_125 : decode M_X4_comesTold.2.1 125 = .ok (.iaload, 1) := by decide +kernel
theorem dX4_comesTold_126 : decode M_X4_comesTold.2.1 126 = .ok (.invokevirtual 206, 3) := by decide +kernel
theorem dX4_comesTold_129 : decode M_X4_comesTold.2.1 129 = .ok (.ireturn, 1) := by decide +kernel
theorem dX4_comesTold_130 : decode M_X4_comesTold.2.1 130 = .ok (.aload_n 0, 1) := by decide +kernel
theorem dX4_comesTold_131 : decode M_X4_comesTold.2.1 131 = .ok (.iload_n 2, 1) := by decide +kernel
theorem dX4_comesTold_132 : decode M_X4_comesTold.2.1 132 = .ok (.invokevirtual 209, 3) := by decide +kernel
theorem dX4_comesTold_135 : decode M_X4_comesTold.2.1 135 = .ok (.ireturn, 1) := by decide +kernel
theorem dX4_comesTold_136 : decode M_X4_comesTold.2.1 136 = .ok (.aload_n 0, 1) := by decide +kernel
theorem dX4_comesTold_137 : decode M_X4_comesTold.2.1 137 = .ok (.iload_n 2, 1) := by decide +kernel
theorem dX4_comesTold_138 : decode M_X4_comesTold.2.1 138 = .ok (.invokevirtual 212, 3) := by decide +kernel
theorem dX4_comesTold_141 : decode M_X4_comesTold.2.1 141 = .ok (.ireturn, 1) := by decide +kernel
theorem hv_X4_196 : a_okV RX4 M_X4_beastComes 196 := ⟨a_in 1031 (by decide +kernel) rfl, a_in 1033 (by decide +kernel) rfl, a_in 31 (by decide +kernel) rfl⟩
theorem hv_X4_206 : a_okV RX4 M_X4_callComes 206 := ⟨a_in 1058 (by decide +kernel) rfl, a_in 1060 (by decide +kernel) rfl, a_in 35 (by decide +kernel) rfl⟩
theorem hv_X4_200 : a_okV RX4 M_X4_beastStands 200 := ⟨a_in 1039 (by decide +kernel) rfl, a_in 1041 (by decide +kernel) rfl, a_in 32 (by decide +kernel) rfl⟩
theorem hv_X4_203 : a_okV RX4 M_X4_personComes 203 := ⟨a_in 1050 (by decide +kernel) rfl, a_in 1052 (by decide +kernel) rfl, a_in 34 (by decide +kernel) rfl⟩
theorem hv_X4_209 : a_okV RX4 M_X4_letComes 209 := ⟨a_in 1062 (by decide +kernel) rfl, a_in 1064 (by decide +kernel) rfl, a_in 36 (by decide +kernel) rfl⟩
theorem hv_X4_212 : a_okV RX4 M_X4_daysCome 212 := ⟨a_in 1066 (by decide +kernel) rfl, a_in 1068 (by decide +kernel) rfl, a_in 37 (by decide +kernel) rfl⟩
def f_X4_comesTold (a0 : Nat) (a1 : Int32) (w : aW) : Option (Int32 × aW) :=
  (gR 3 w a0 26).bind fun r1 =>
  (gA w r1 ((4 : Int32) * a1)).bind fun x2 =>
  (gR 3 w a0 25).bind fun r3 =>
  (gA w r3 a1).bind fun x4 =>
  if x4 = (98 : Int32) then
    (gR 3 w a0 26).bind fun r6 =>
    (gA w r6 (((4 : Int32) * a1) + (1 : Int32))).bind fun x7 =>
    (gR 3 w a0 26).bind fun r8 =>
    (gA w r8 (((4 : Int32) * a1) + (2 : Int32))).bind fun x9 =>
    cV 3 w a0 (bk (f_X4_beastComes a0 x2 x7 x9 w) fun x11 w10 =>
    if ¬ (x11 = 0 ∨ x11 = 1) then none else some (x11, w10))
  else
    if x4 = (99 : Int32) then
      (gR 3 w a0 26).bind fun r14 =>
      (gA w r14 (((4 : Int32) * a1) + (1 : Int32))).bind fun x15 =>
      cV 3 w a0 (bk (f_X4_callComes a0 x2 x15 w) fun x17 w16 =>
      if ¬ (x17 = 0 ∨ x17 = 1) then none else some (x17, w16))
    else
      if x4 = (103 : Int32) then
        (gR 3 w a0 26).bind fun r20 =>
        (gA w r20 (((4 : Int32) * a1) + (2 : Int32))).bind fun x21 =>
        cV 3 w a0 (bk (f_X4_beastStands a0 x2 x21 w) fun x23 w22 =>
        if ¬ (x23 = 0 ∨ x23 = 1) then none else some (x23, w22))
      else
        if x4 = (112 : Int32) then
          cV 3 w a0 (bk (f_X4_personComes a0 ((4 : Int32) * a1) w) fun x27 w26 =>
          if ¬ (x27 = 0 ∨ x27 = 1) then none else some (x27, w26))
        else
          if x4 = (117 : Int32) then
            cV 3 w a0 (bk (f_X4_letComes a0 x2 w) fun x31 w30 =>
            if ¬ (x31 = 0 ∨ x31 = 1) then none else some (x31, w30))
          else
            cV 3 w a0 (bk (f_X4_daysCome a0 x2 w) fun x34 w33 =>
            if ¬ (x34 = 0 ∨ x34 = 1) then none else some (x34, w33))
theorem s_X4_comesTold (a0 : Nat) (a1 : Int32) (w : aW) : Sp rvI M_X4_comesTold [.ref a0, .int a1] w (f_X4_comesTold a0 a1 w) := by
  refine e_entry [some (.ref a0), some (.int a1), none] (by decide +kernel) (Nat.le_of_ble_eq_true rfl) (fun _ => rfl) ?_
  unfold f_X4_comesTold
  refine e_aload_n (pc := 0) dX4_comesTold_0 rfl rfl ?_
  refine e_getR (pc := 1) dX4_comesTold_1 hs_X4_62 (fun r1 => ?_)
  refine e_iconst (pc := 4) dX4_comesTold_4 kc_4 ?_
  refine e_iload_n (pc := 5) dX4_comesTold_5 rfl rfl ?_
  refine e_imul (pc := 6) dX4_comesTold_6 ?_
  refine e_iald (pc := 7) dX4_comesTold_7 (fun x2 => ?_)
  refine e_istore_n (L' := [some (.ref a0), some (.int a1), some (.int x2)]) (pc := 8) dX4_comesTold_8 rfl (by decide) rfl ?_
  refine e_aload_n (pc := 9) dX4_comesTold_9 rfl rfl ?_
  refine e_getR (pc := 10) dX4_comesTold_10 hs_X4_59 (fun r3 => ?_)
  refine e_iload_n (pc := 13) dX4_comesTold_13 rfl rfl ?_
  refine e_iald (pc := 14) dX4_comesTold_14 (fun x4 => ?_)
  refine e_ite (fun h5 => ?_) (fun h5 => ?_)
  · refine e_lookIn (pc := 15) (v := 98) (off := 49) (tgt := 64) dX4_comesTold_15 (by decide) h5 (by decide) (by decide) ?_
    refine e_aload_n (pc := 64) dX4_comesTold_64 rfl rfl ?_
    refine e_iload_n (pc := 65) dX4_comesTold_65 rfl rfl ?_
    refine e_aload_n (pc := 66) dX4_comesTold_66 rfl rfl ?_
    refine e_getR (pc := 67) dX4_comesTold_67 hs_X4_62 (fun r6 => ?_)
    refine e_iconst (pc := 70) dX4_comesTold_70 kc_4 ?_
    refine e_iload_n (pc := 71) dX4_comesTold_71 rfl rfl ?_
    refine e_imul (pc := 72) dX4_comesTold_72 ?_
    refine e_iconst (pc := 73) dX4_comesTold_73 kc_1 ?_
    refine e_iadd (pc := 74) dX4_comesTold_74 ?_
    refine e_iald (pc := 75) dX4_comesTold_75 (fun x7 => ?_)
    refine e_aload_n (pc := 76) dX4_comesTold_76 rfl rfl ?_
    refine e_getR (pc := 77) dX4_comesTold_77 hs_X4_62 (fun r8 => ?_)
    refine e_iconst (pc := 80) dX4_comesTold_80 kc_4 ?_
    refine e_iload_n (pc := 81) dX4_comesTold_81 rfl rfl ?_
    refine e_imul (pc := 82) dX4_comesTold_82 ?_
    refine e_iconst (pc := 83) dX4_comesTold_83 kc_2 ?_
    refine e_iadd (pc := 84) dX4_comesTold_84 ?_
    refine e_iald (pc := 85) dX4_comesTold_85 (fun x9 => ?_)
    refine e_callV (pc := 86) (av := [.int x2, .int x7, .int x9]) (S := []) (c0 := 3) rfl rfl ok_X4_beastComes ⟨Nat.le_of_ble_eq_true rfl, Nat.le_of_ble_eq_true rfl⟩ hv_X4_196 dX4_comesTold_86 (s_X4_beastComes a0 x2 x7 x9 w) rfl rfl (Nat.le_of_ble_eq_true rfl) (fun x11 w10 => ?_)
    refine e_chk (fun h12 => ?_)
    exact e_iret (pc := 89) dX4_comesTold_89 rfl (a_nb (Decidable.not_not.mp h12))
  · refine e_ite (fun h13 => ?_) (fun h13 => ?_)
    · refine e_lookIn (pc := 15) (v := 99) (off := 99) (tgt := 114) dX4_comesTold_15 (by decide) h13 (by decide) (by decide) ?_
      refine e_aload_n (pc := 114) dX4_comesTold_114 rfl rfl ?_
      refine e_iload_n (pc := 115) dX4_comesTold_115 rfl rfl ?_
      refine e_aload_n (pc := 116) dX4_comesTold_116 rfl rfl ?_
      refine e_getR (pc := 117) dX4_comesTold_117 hs_X4_62 (fun r14 => ?_)
      refine e_iconst (pc := 120) dX4_comesTold_120 kc_4 ?_
      refine e_iload_n (pc := 121) dX4_comesTold_121 rfl rfl ?_
      refine e_imul (pc := 122) dX4_comesTold_122 ?_
      refine e_iconst (pc := 123) dX4_comesTold_123 kc_1 ?_
      refine e_iadd (pc := 124) dX4_comesTold_124 ?_
      refine e_iald (pc := 125) dX4_comesTold_125 (fun x15 => ?_)
      refine e_callV (pc := 126) (av := [.int x2, .int x15]) (S := []) (c0 := 3) rfl rfl ok_X4_callComes ⟨Nat.le_of_ble_eq_true rfl, Nat.le_of_ble_eq_true rfl⟩ hv_X4_206 dX4_comesTold_126 (s_X4_callComes a0 x2 x15 w) rfl rfl (Nat.le_of_ble_eq_true rfl) (fun x17 w16 => ?_)
      refine e_chk (fun h18 => ?_)
      exact e_iret (pc := 129) dX4_comesTold_129 rfl (a_nb (Decidable.not_not.mp h18))
    · refine e_ite (fun h19 => ?_) (fun h19 => ?_)
      · refine e_lookIn (pc := 15) (v := 103) (off := 75) (tgt := 90) dX4_comesTold_15 (by decide) h19 (by decide) (by decide) ?_
        refine e_aload_n (pc := 90) dX4_comesTold_90 rfl rfl ?_
        refine e_iload_n (pc := 91) dX4_comesTold_91 rfl rfl ?_
        refine e_aload_n (pc := 92) dX4_comesTold_92 rfl rfl ?_
        refine e_getR (pc := 93) dX4_comesTold_93 hs_X4_62 (fun r20 => ?_)
        refine e_iconst (pc := 96) dX4_comesTold_96 kc_4 ?_
        refine e_iload_n (pc := 97) dX4_comesTold_97 rfl rfl ?_
        refine e_imul (pc := 98) dX4_comesTold_98 ?_
        refine e_iconst (pc := 99) dX4_comesTold_99 kc_2 ?_
        refine e_iadd (pc := 100) dX4_comesTold_100 ?_
        refine e_iald (pc := 101) dX4_comesTold_101 (fun x21 => ?_)
        refine e_callV (pc := 102) (av := [.int x2, .int x21]) (S := []) (c0 := 3) rfl rfl ok_X4_beastStands ⟨Nat.le_of_ble_eq_true rfl, Nat.le_of_ble_eq_true rfl⟩ hv_X4_200 dX4_comesTold_102 (s_X4_beastStands a0 x2 x21 w) rfl rfl (Nat.le_of_ble_eq_true rfl) (fun x23 w22 => ?_)
        refine e_chk (fun h24 => ?_)
        exact e_iret (pc := 105) dX4_comesTold_105 rfl (a_nb (Decidable.not_not.mp h24))
      · refine e_ite (fun h25 => ?_) (fun h25 => ?_)
        · refine e_lookIn (pc := 15) (v := 112) (off := 91) (tgt := 106) dX4_comesTold_15 (by decide) h25 (by decide) (by decide) ?_
          refine e_aload_n (pc := 106) dX4_comesTold_106 rfl rfl ?_
          refine e_iconst (pc := 107) dX4_comesTold_107 kc_4 ?_
          refine e_iload_n (pc := 108) dX4_comesTold_108 rfl rfl ?_
          refine e_imul (pc := 109) dX4_comesTold_109 ?_
          refine e_callV (pc := 110) (av := [.int ((4 : Int32) * a1)]) (S := []) (c0 := 3) rfl rfl ok_X4_personComes ⟨Nat.le_of_ble_eq_true rfl, Nat.le_of_ble_eq_true rfl⟩ hv_X4_203 dX4_comesTold_110 (s_X4_personComes a0 ((4 : Int32) * a1) w) rfl rfl (Nat.le_of_ble_eq_true rfl) (fun x27 w26 => ?_)
          refine e_chk (fun h28 => ?_)
          exact e_iret (pc := 113) dX4_comesTold_113 rfl (a_nb (Decidable.not_not.mp h28))
        · refine e_ite (fun h29 => ?_) (fun h29 => ?_)
          · refine e_lookIn (pc := 15) (v := 117) (off := 115) (tgt := 130) dX4_comesTold_15 (by decide) h29 (by decide) (by decide) ?_
            refine e_aload_n (pc := 130) dX4_comesTold_130 rfl rfl ?_
            refine e_iload_n (pc := 131) dX4_comesTold_131 rfl rfl ?_
            refine e_callV (pc := 132) (av := [.int x2]) (S := []) (c0 := 3) rfl rfl ok_X4_letComes ⟨Nat.le_of_ble_eq_true rfl, Nat.le_of_ble_eq_true rfl⟩ hv_X4_209 dX4_comesTold_132 (s_X4_letComes a0 x2 w) rfl rfl (Nat.le_of_ble_eq_true rfl) (fun x31 w30 => ?_)
            refine e_chk (fun h32 => ?_)
            exact e_iret (pc := 135) dX4_comesTold_135 rfl (a_nb (Decidable.not_not.mp h32))
          · refine e_lookOut (pc := 15) (off := 121) (tgt := 136) dX4_comesTold_15 (by decide) (by rw [lv_osw h5 (show (98 : Int32).toInt = 98 from rfl), lv_osw h13 (show (99 : Int32).toInt = 99 from rfl), lv_osw h19 (show (103 : Int32).toInt = 103 from rfl), lv_osw h25 (show (112 : Int32).toInt = 112 from rfl), lv_osw h29 (show (117 : Int32).toInt = 117 from rfl)]; first | done | rfl) (by decide) ?_
            refine e_aload_n (pc := 136) dX4_comesTold_136 rfl rfl ?_
            refine e_iload_n (pc := 137) dX4_comesTold_137 rfl rfl ?_
            refine e_callV (pc := 138) (av := [.int x2]) (S := []) (c0 := 3) rfl rfl ok_X4_daysCome ⟨Nat.le_of_ble_eq_true rfl, Nat.le_of_ble_eq_true rfl⟩ hv_X4_212 dX4_comesTold_138 (s_X4_daysCome a0 x2 w) rfl rfl (Nat.le_of_ble_eq_true rfl) (fun x34 w33 => ?_)
            refine e_chk (fun h35 => ?_)
            exact e_iret (pc := 141) dX4_comesTold_141 rfl (a_nb (Decidable.not_not.mp h35))
def M_X4_wrongRow : aM := (yX4_wrongRow, cX4_wrongRow, 2, (some .int), 1, 25)
theorem ok_X4_wrongRow : a_okM M_X4_wrongRow 1 := ⟨⟨by decide +kernel, by decide +kernel⟩, by decide +kernel, a_in 989 (by decide +kernel) rfl, a_in 79 (by decide +kernel) rfl⟩
theorem dX4_wrongRow_0 : decode M_X4_wrongRow.2.1 0 = .ok (.iload_n 1, 1) := by decide +kernel
theorem dX4_wrongRow_1 : decode M_X4_wrongRow.2.1 1 = .ok (.i2l, 1) := by decide +kernel
theorem dX4_wrongRow_2 : decode M_X4_wrongRow.2.1 2 = .ok (.lconst 0, 1) := by decide +kernel
theorem dX4_wrongRow_3 : decode M_X4_wrongRow.2.1 3 = .ok (.ldc2_w 262, 3) := by decide +kernel
theorem dX4_wrongRow_6 : decode M_X4_wrongRow.2.1 6 = .ok (.invokestatic 86, 3) := by decide +kernel
theorem dX4_wrongRow_9 : decode M_X4_wrongRow.2.1 9 = .ok (.ifCond .ne 7, 3) := by decide +kernel
theorem dX4_wrongRow_12 : decode M_X4_wrongRow.2.1 12 = .ok (.iconst (-1), 1) := by decide +kernel
theorem dX4_wrongRow_13 : decode M_X4_wrongRow.2.1 13 = .ok (.goto 33, 3) := by decide +kernel
theorem dX4_wrongRow_16 : decode M_X4_wrongRow.2.1 16 = .ok (.aload_n 0, 1) := by decide +kernel
theorem dX4_wrongRow_17 : decode M_X4_wrongRow.2.1 17 = .ok (.getfield 37, 3) := by decide +kernel
theorem dX4_wrongRow_20 : decode M_X4_wrongRow.2.1 20 = .ok (.iload_n 1, 1) := by decide +kernel
theorem dX4_wrongRow_21 : decode M_X4_wrongRow.2.1 21 = .ok (.iaload, 1) := by decide +kernel
theorem dX4_wrongRow_22 : decode M_X4_wrongRow.2.1 22 = .ok (.ifCond .ne 8, 3) := by decide +kernel
theorem dX4_wrongRow_25 : decode M_X4_wrongRow.2.1 25 = .ok (.bipush (-11), 2) := by decide +kernel
theorem dX4_wrongRow_27 : decode M_X4_wrongRow.2.1 27 = .ok (.goto 19, 3) := by decide +kernel
theorem dX4_wrongRow_30 : decode M_X4_wrongRow.2.1 30 = .ok (.aload_n 0, 1) := by decide +kernel
theorem dX4_wrongRow_31 : decode M_X4_wrongRow.2.1 31 = .ok (.getfield 37, 3) := by decide +kernel
theorem dX4_wrongRow_34 : decode M_X4_wrongRow.2.1 34 = .ok (.iload_n 1, 1) := by decide +kernel
theorem dX4_wrongRow_35 : decode M_X4_wrongRow.2.1 35 = .ok (.iaload, 1) := by decide +kernel
theorem dX4_wrongRow_36 : decode M_X4_wrongRow.2.1 36 = .ok (.iconst 2, 1) := by decide +kernel
theorem dX4_wrongRow_37 : decode M_X4_wrongRow.2.1 37 = .ok (.if_icmp .eq 8, 3) := by decide +kernel
theorem dX4_wrongRow_40 : decode M_X4_wrongRow.2.1 40 = .ok (.bipush (-12), 2) := by decide +kernel
theorem dX4_wrongRow_42 : decode M_X4_wrongRow.2.1 42 = .ok (.goto 4, 3) := by decide +kernel
theorem dX4_wrongRow_45 : decode M_X4_wrongRow.2.1 45 = .ok (.iconst 0, 1) := by decide +kernel
theorem dX4_wrongRow_46 : decode M_X4_wrongRow.2.1 46 = .ok (.ireturn, 1) := by decide +kernel
theorem hs_X4_37 : a_fs RX4 37 3 13 := ⟨RX4, TX4, 37, rfl, tin_X4, by decide, a_in 878 (by decide +kernel) rfl⟩
def f_X4_wrongRow (a0 : Nat) (a1 : Int32) (w : aW) : Option (Int32 × aW) :=
  bk (f_X4_in a1.toInt64 (0 : Int64) (7 : Int64) w) fun x2 w1 =>
  if ¬ x2 = (0 : Int32) then
    (gR 3 w1 a0 13).bind fun r3 =>
    (gA w1 r3 a1).bind fun x4 =>
    if ¬ x4 = (0 : Int32) then
      (gR 3 w1 a0 13).bind fun r5 =>
      (gA w1 r5 a1).bind fun x6 =>
      if x6 = (2 : Int32) then
        some ((0 : Int32), w1)
      else
        some ((-12 : Int32), w1)
    else
      some ((-11 : Int32), w1)
  else
    some ((-1 : Int32), w1)
theorem s_X4_wrongRow (a0 : Nat) (a1 : Int32) (w : aW) : Sp rvI M_X4_wrongRow [.ref a0, .int a1] w (f_X4_wrongRow a0 a1 w) := by
  refine e_entry [some (.ref a0), some (.int a1)] (by decide +kernel) (Nat.le_of_ble_eq_true rfl) (fun _ => rfl) ?_
  unfold f_X4_wrongRow
  refine e_iload_n (pc := 0) dX4_wrongRow_0 rfl rfl ?_
  refine e_i2l (pc := 1) dX4_wrongRow_1 ?_
  refine e_lconst (pc := 2) (v := 0) dX4_wrongRow_2 (by decide) ?_
  refine e_ldc2 (pc := 3) (v := 7) dX4_wrongRow_3 (a_in 990 (by decide +kernel) rfl) ?_
  refine e_callS (pc := 6) (av := [.long a1.toInt64, .long (0 : Int64), .long (7 : Int64)]) (S := []) ok_X4_in ⟨Nat.le_of_ble_eq_true rfl, Nat.le_of_ble_eq_true rfl⟩ ht_X4_86 dX4_wrongRow_6 (s_X4_in a1.toInt64 (0 : Int64) (7 : Int64) w) rfl rfl (Nat.le_of_ble_eq_true rfl) (fun x2 w1 => ?_)
  refine e_if_ne (pc := 9) (tgt := 16) dX4_wrongRow_9 (by decide) (fun _ => ?_) (fun _ => ?_)
  · refine e_aload_n (pc := 16) dX4_wrongRow_16 rfl rfl ?_
    refine e_getR (pc := 17) dX4_wrongRow_17 hs_X4_37 (fun r3 => ?_)
    refine e_iload_n (pc := 20) dX4_wrongRow_20 rfl rfl ?_
    refine e_iald (pc := 21) dX4_wrongRow_21 (fun x4 => ?_)
    refine e_if_ne (pc := 22) (tgt := 30) dX4_wrongRow_22 (by decide) (fun _ => ?_) (fun _ => ?_)
    · refine e_aload_n (pc := 30) dX4_wrongRow_30 rfl rfl ?_
      refine e_getR (pc := 31) dX4_wrongRow_31 hs_X4_37 (fun r5 => ?_)
      refine e_iload_n (pc := 34) dX4_wrongRow_34 rfl rfl ?_
      refine e_iald (pc := 35) dX4_wrongRow_35 (fun x6 => ?_)
      refine e_iconst (pc := 36) dX4_wrongRow_36 kc_2 ?_
      refine e_icmp_eq (pc := 37) (tgt := 45) dX4_wrongRow_37 (by decide) (fun _ => ?_) (fun _ => ?_)
      · refine e_iconst (pc := 45) dX4_wrongRow_45 kc_0 ?_
        exact e_iret (pc := 46) dX4_wrongRow_46 rfl rfl
      · refine e_bipush (pc := 40) dX4_wrongRow_40 kb_m12 ?_
        refine e_goto (pc := 42) (tgt := 46) dX4_wrongRow_42 (by decide) ?_
        exact e_iret (pc := 46) dX4_wrongRow_46 rfl rfl
    · refine e_bipush (pc := 25) dX4_wrongRow_25 kb_m11 ?_
      refine e_goto (pc := 27) (tgt := 46) dX4_wrongRow_27 (by decide) ?_
      exact e_iret (pc := 46) dX4_wrongRow_46 rfl rfl
  · refine e_iconst (pc := 12) dX4_wrongRow_12 kc_m1 ?_
    refine e_goto (pc := 13) (tgt := 46) dX4_wrongRow_13 (by decide) ?_
    exact e_iret (pc := 46) dX4_wrongRow_46 rfl rfl
def M_X4_carry : aM := (yX4_carry, cX4_carry, 2, (some .int), 0, 0)
theorem ok_X4_carry : a_okM M_X4_carry 1 := ⟨⟨by decide +kernel, by decide +kernel⟩, by decide +kernel, a_in 1026 (by decide +kernel) rfl, a_in 79 (by decide +kernel) rfl⟩
theorem dX4_carry_0 : decode M_X4_carry.2.1 0 = .ok (.aload_n 0, 1) := by decide +kernel
theorem dX4_carry_1 : decode M_X4_carry.2.1 1 = .ok (.getfield 230, 3) := by decide +kernel
theorem dX4_carry_4 : decode M_X4_carry.2.1 4 = .ok (.ifCond .eq 13, 3) := by decide +kernel
theorem dX4_carry_7 : decode M_X4_carry.2.1 7 = .ok (.aload_n 0, 1) := by decide +kernel
theorem dX4_carry_8 : decode M_X4_carry.2.1 8 = .ok (.getfield 233, 3) := by decide +kernel
theorem dX4_carry_11 : decode M_X4_carry.2.1 11 = .ok (.aload_n 0, 1) := by decide +kernel
theorem dX4_carry_12 : decode M_X4_carry.2.1 12 = .ok (.getfield 236, 3) := by decide +kernel
theorem dX4_carry_15 : decode M_X4_carry.2.1 15 = .ok (.iload_n 1, 1) := by decide +kernel
theorem dX4_carry_16 : decode M_X4_carry.2.1 16 = .ok (.iastore, 1) := by decide +kernel
theorem dX4_carry_17 : decode M_X4_carry.2.1 17 = .ok (.aload_n 0, 1) := by decide +kernel
theorem dX4_carry_18 : decode M_X4_carry.2.1 18 = .ok (.dup, 1) := by decide +kernel
theorem dX4_carry_19 : decode M_X4_carry.2.1 19 = .ok (.getfield 236, 3) := by decide +kernel
theorem dX4_carry_22 : decode M_X4_carry.2.1 22 = .ok (.iconst 1, 1) := by decide +kernel
theorem dX4_carry_23 : decode M_X4_carry.2.1 23 = .ok (.iadd, 1) := by decide +kernel
theorem dX4_carry_24 : decode M_X4_carry.2.1 24 = .ok (.putfield 236, 3) := by decide +kernel
theorem dX4_carry_27 : decode M_X4_carry.2.1 27 = .ok (.aload_n 0, 1) := by decide +kernel
theorem dX4_carry_28 : decode M_X4_carry.2.1 28 = .ok (.getfield 233, 3) := by decide +kernel
theorem dX4_carry_31 : decode M_X4_carry.2.1 31 = .ok (.aload_n 0, 1) := by decide +kernel
theorem dX4_carry_32 : decode M_X4_carry.2.1 32 = .ok (.getfield 236, 3) := by decide +kernel
theorem dX4_carry_35 : decode M_X4_carry.2.1 35 = .ok (.iconst 1, 1) := by decide +kernel
theorem dX4_carry_36 : decode M_X4_carry.2.1 36 = .ok (.isub, 1) := by decide +kernel
theorem dX4_carry_37 : decode M_X4_carry.2.1 37 = .ok (.iaload, 1) := by decide +kernel
theorem dX4_carry_38 : decode M_X4_carry.2.1 38 = .ok (.ireturn, 1) := by decide +kernel
theorem hs_X4_230 : a_fs RX4 230 3 31 := ⟨RX4, TX4, 37, rfl, tin_X4, by decide, a_in 896 (by decide +kernel) rfl⟩
theorem hs_X4_233 : a_fs RX4 233 3 32 := ⟨RX4, TX4, 37, rfl, tin_X4, by decide, a_in 897 (by decide +kernel) rfl⟩
theorem hs_X4_236 : a_fs RX4 236 3 30 := ⟨RX4, TX4, 37, rfl, tin_X4, by decide, a_in 895 (by decide +kernel) rfl⟩
theorem hw_X4_236 : a_fw RX4 236 3 30 (.int) := ⟨RX4, TX4, 37, tyX4, rfl, tin_X4, by decide, a_in 895 (by decide +kernel) rfl, tyX4_ok, nmX4, rfl, by decide +kernel⟩
def c_X4_carry_17 (a0 : Nat) (a1 : Int32) (w : aW) : Option (Int32 × aW) :=
  (gI 3 w a0 30).bind fun x5 =>
  (sF 3 w a0 30 (.int (x5 + (1 : Int32)))).bind fun w6 =>
  (gR 3 w6 a0 32).bind fun r7 =>
  (gI 3 w6 a0 30).bind fun x8 =>
  (gA w6 r7 (x8 - (1 : Int32))).bind fun x9 =>
  some (x9, w6)
theorem t_X4_carry_17 (a0 : Nat) (a1 : Int32) (w : aW) : Ev rvI M_X4_carry 17 [some (.ref a0), none] [] w (c_X4_carry_17 a0 a1 w) := by
  unfold c_X4_carry_17
  refine e_aload_n (pc := 17) dX4_carry_17 rfl rfl ?_
  refine e_dup (pc := 18) dX4_carry_18 rfl ?_
  refine e_getI (pc := 19) dX4_carry_19 hs_X4_236 (fun x5 => ?_)
  refine e_iconst (pc := 22) dX4_carry_22 kc_1 ?_
  refine e_iadd (pc := 23) dX4_carry_23 ?_
  refine e_put (pc := 24) dX4_carry_24 hw_X4_236 (fun _ => rfl) (fun _ => rfl) (fun w6 => ?_)
  refine e_aload_n (pc := 27) dX4_carry_27 rfl rfl ?_
  refine e_getR (pc := 28) dX4_carry_28 hs_X4_233 (fun r7 => ?_)
  refine e_aload_n (pc := 31) dX4_carry_31 rfl rfl ?_
  refine e_getI (pc := 32) dX4_carry_32 hs_X4_236 (fun x8 => ?_)
  refine e_iconst (pc := 35) dX4_carry_35 kc_1 ?_
  refine e_isub (pc := 36) dX4_carry_36 ?_
  refine e_iald (pc := 37) dX4_carry_37 (fun x9 => ?_)
  exact e_iret (pc := 38) dX4_carry_38 rfl rfl
def f_X4_carry (a0 : Nat) (a1 : Int32) (w : aW) : Option (Int32 × aW) :=
  (gI 3 w a0 31).bind fun x1 =>
  if x1 = (0 : Int32) then
    c_X4_carry_17 a0 a1 w
  else
    (gR 3 w a0 32).bind fun r2 =>
    (gI 3 w a0 30).bind fun x3 =>
    (sA w r2 x3 a1).bind fun w4 =>
    c_X4_carry_17 a0 a1 w4
theorem s_X4_carry (a0 : Nat) (a1 : Int32) (w : aW) : Sp rvI M_X4_carry [.ref a0, .int a1] w (f_X4_carry a0 a1 w) := by
  refine e_entry [some (.ref a0), some (.int a1)] (by decide +kernel) (Nat.le_of_ble_eq_true rfl) (fun _ => rfl) ?_
  unfold f_X4_carry
  refine e_aload_n (pc := 0) dX4_carry_0 rfl rfl ?_
  refine e_getI (pc := 1) dX4_carry_1 hs_X4_230 (fun x1 => ?_)
  refine e_if_eq (pc := 4) (tgt := 17) dX4_carry_4 (by decide) (fun _ => ?_) (fun _ => ?_)
  · refine e_forget (L2 := [some (.ref a0), none]) (And.intro rfl trivial) ?_
    exact t_X4_carry_17 a0 a1 w
  · refine e_aload_n (pc := 7) dX4_carry_7 rfl rfl ?_
    refine e_getR (pc := 8) dX4_carry_8 hs_X4_233 (fun r2 => ?_)
    refine e_aload_n (pc := 11) dX4_carry_11 rfl rfl ?_
    refine e_getI (pc := 12) dX4_carry_12 hs_X4_236 (fun x3 => ?_)
    refine e_iload_n (pc := 15) dX4_carry_15 rfl rfl ?_
    refine e_iast (pc := 16) dX4_carry_16 (fun w4 => ?_)
    refine e_forget (L2 := [some (.ref a0), none]) (And.intro rfl trivial) ?_
    exact t_X4_carry_17 a0 a1 w4
def M_X4_carryAll : aM := (yX4_carryAll, cX4_carryAll, 4, none, 1, 21)
theorem ok_X4_carryAll : a_okM M_X4_carryAll 2 := ⟨⟨by decide +kernel, by decide +kernel⟩, by decide +kernel, a_in 1022 (by decide +kernel) rfl, a_in 79 (by decide +kernel) rfl⟩
theorem dX4_carryAll_0 : decode M_X4_carryAll.2.1 0 = .ok (.aload_n 0, 1) := by decide +kernel
theorem dX4_carryAll_1 : decode M_X4_carryAll.2.1 1 = .ok (.aload_n 1, 1) := by decide +kernel
theorem dX4_carryAll_2 : decode M_X4_carryAll.2.1 2 = .ok (.putfield 233, 3) := by decide +kernel
theorem dX4_carryAll_5 : decode M_X4_carryAll.2.1 5 = .ok (.aload_n 0, 1) := by decide +kernel
theorem dX4_carryAll_6 : decode M_X4_carryAll.2.1 6 = .ok (.iload_n 2, 1) := by decide +kernel
theorem dX4_carryAll_7 : decode M_X4_carryAll.2.1 7 = .ok (.putfield 230, 3) := by decide +kernel
theorem dX4_carryAll_10 : decode M_X4_carryAll.2.1 10 = .ok (.aload_n 0, 1) := by decide +kernel
theorem dX4_carryAll_11 : decode M_X4_carryAll.2.1 11 = .ok (.iconst 0, 1) := by decide +kernel
theorem dX4_carryAll_12 : decode M_X4_carryAll.2.1 12 = .ok (.putfield 236, 3) := by decide +kernel
theorem dX4_carryAll_15 : decode M_X4_carryAll.2.1 15 = .ok (.aload_n 0, 1) := by decide +kernel
theorem dX4_carryAll_16 : decode M_X4_carryAll.2.1 16 = .ok (.aload_n 0, 1) := by decide +kernel
theorem dX4_carryAll_17 : decode M_X4_carryAll.2.1 17 = .ok (.aload_n 0, 1) := by decide +kernel
theorem dX4_carryAll_18 : decode M_X4_carryAll.2.1 18 = .ok (.getfield 92, 3) := by decide +kernel
theorem dX4_carryAll_21 : decode M_X4_carryAll.2.1 21 = .ok (.invokevirtual 239, 3) := by decide +kernel
theorem dX4_carryAll_24 : decode M_X4_carryAll.2.1 24 = .ok (.putfield 92, 3) := by decide +kernel
theorem dX4_carryAll_27 : decode M_X4_carryAll.2.1 27 = .ok (.aload_n 0, 1) := by decide +kernel
theorem dX4_carryAll_28 : decode M_X4_carryAll.2.1 28 = .ok (.aload_n 0, 1) := by decide +kernel
theorem dX4_carryAll_29 : decode M_X4_carryAll.2.1 29 = .ok (.aload_n 0, 1) := by decide +kernel
theorem dX4_carryAll_30 : decode M_X4_carryAll.2.1 30 = .ok (.getfield 107, 3) := by decide +kernel
theorem dX4_carryAll_33 : decode M_X4_carryAll.2.1 33 = .ok (.invokevirtual 239, 3) := by decide +kernel
theorem dX4_carryAll_36 : decode M_X4_carryAll.2.1 36 = .ok (.putfield 107, 3) := by decide +kernel
theorem dX4_carryAll_39 : decode M_X4_carryAll.2.1 39 = .ok (.aload_n 0, 1) := by decide +kernel
theorem dX4_carryAll_40 : decode M_X4_carryAll.2.1 40 = .ok (.aload_n 0, 1) := by decide +kernel
theorem dX4_carryAll_41 : decode M_X4_carryAll.2.1 41 = .ok (.aload_n 0, 1) := by decide +kernel
theorem dX4_carryAll_42 : decode M_X4_carryAll.2.1 42 = .ok (.getfield 124, 3) := by decide +kernel
theorem dX4_carryAll_45 : decode M_X4_carryAll.2.1 45 = .ok (.invokevirtual 239, 3) := by decide +kernel
theorem dX4_carryAll_48 : decode M_X4_carryAll.2.1 48 = .ok (.putfield 124, 3) := by decide +kernel
theorem dX4_carryAll_51 : decode M_X4_carryAll.2.1 51 = .ok (.iconst 0, 1) := by decide +kernel
theorem dX4_carryAll_52 : decode M_X4_carryAll.2.1 52 = .ok (.istore_n 3, 1) := by decide +kernel
theorem dX4_carryAll_53 : decode M_X4_carryAll.2.1 53 = .ok (.iload_n 3, 1) := by decide +kernel
theorem dX4_carryAll_54 : decode M_X4_carryAll.2.1 54 = .ok (.bipush 9, 2) := by decide +kernel
theorem dX4_carryAll_56 : decode M_X4_carryAll.2.1 56 = .ok (.if_icmp .ge 89, 3) := by decide +kernel
theorem dX4_carryAll_59 : decode M_X4_carryAll.2.1 59 = .ok (.aload_n 0, 1) := by decide +kernel
theorem dX4_carryAll_60 : decode M_X4_carryAll.2.1 60 = .ok (.getfield 7, 3) := by decide +kernel
theorem dX4_carryAll_63 : decode M_X4_carryAll.2.1 63 = .ok (.iload_n 3, 1) := by decide +kernel
theorem dX4_carryAll_64 : decode M_X4_carryAll.2.1 64 = .ok (.aload_n 0, 1) := by decide +kernel
theorem dX4_carryAll_65 : decode M_X4_carryAll.2.1 65 = .ok (.aload_n 0, 1) := by decide +kernel
theorem dX4_carryAll_66 : decode M_X4_carryAll.2.1 66 = .ok (.getfield 7, 3) := by decide +kernel
theorem dX4_carryAll_69 : decode M_X4_carryAll.2.1 69 = .ok (.iload_n 3, 1) := by decide +kernel
theorem dX4_carryAll_70 : decode M_X4_carryAll.2.1 70 = .ok (.iaload, 1) := by decide +kernel
theorem dX4_carryAll_71 : decode M_X4_carryAll.2.1 71 = .ok (.invokevirtual 239, 3) := by decide +kernel
theorem dX4_carryAll_74 : decode M_X4_carryAll.2.1 74 = .ok (.iastore, 1) := by decide +kernel
theorem dX4_carryAll_75 : decode M_X4_carryAll.2.1 75 = .ok (.aload_n 0, 1) := by decide +kernel
theorem dX4_carryAll_76 : decode M_X4_carryAll.2.1 76 = .ok (.getfield 13, 3) := by decide +kernel
theorem dX4_carryAll_79 : decode M_X4_carryAll.2.1 79 = .ok (.iload_n 3, 1) := by decide +kernel
theorem dX4_carryAll_80 : decode M_X4_carryAll.2.1 80 = .ok (.aload_n 0, 1) := by decide +kernel
theorem dX4_carryAll_81 : decode M_X4_carryAll.2.1 81 = .ok (.aload_n 0, 1) := by decide +kernel
theorem dX4_carryAll_82 : decode M_X4_carryAll.2.1 82 = .ok (.getfield 13, 3) := by decide +kernel
theorem dX4_carryAll_85 : decode M_X4_carryAll.2.1 85 = .ok (.iload_n 3, 1) := by decide +kernel
theorem dX4_carryAll_86 : decode M_X4_carryAll.2.1 86 = .ok (.iaload, 1) := by decide +kernel
theorem dX4_carryAll_87 : decode M_X4_carryAll.2.1 87 = .ok (.invokevirtual 239, 3) := by decide +kernel
theorem dX4_carryAll_90 : decode M_X4_carryAll.2.1 90 = .ok (.iastore, 1) := by decide +kernel
theorem dX4_carryAll_91 : decode M_X4_carryAll.2.1 91 = .ok (.aload_n 0, 1) := by decide +kernel
theorem dX4_carryAll_92 : decode M_X4_carryAll.2.1 92 = .ok (.getfield 16, 3) := by decide +kernel
theorem dX4_carryAll_95 : decode M_X4_carryAll.2.1 95 = .ok (.iload_n 3, 1) := by decide +kernel
theorem dX4_carryAll_96 : decode M_X4_carryAll.2.1 96 = .ok (.aload_n 0, 1) := by decide +kernel
theorem dX4_carryAll_97 : decode M_X4_carryAll.2.1 97 = .ok (.aload_n 0, 1) := by decide +kernel
theorem dX4_carryAll_98 : decode M_X4_carryAll.2.1 98 = .ok (.getfield 16, 3) := by decide +kernel
theorem dX4_carryAll_101 : decode M_X4_carryAll.2.1 101 = .ok (.iload_n 3, 1) := by decide +kernel
theorem dX4_carryAll_102 : decode M_X4_carryAll.2.1 102 = .ok (.iaload, 1) := by decide +kernel
theorem dX4_carryAll_103 : decode M_X4_carryAll.2.1 103 = .ok (.invokevirtual 239, 3) := by decide +kernel
theorem dX4_carryAll_106 : decode M_X4_carryAll.2.1 106 = .ok (.iastore, 1) := by decide +kernel
theorem dX4_carryAll_107 : decode M_X4_carryAll.2.1 107 = .ok (.aload_n 0, 1) := by decide +kernel
theorem dX4_carryAll_108 : decode M_X4_carryAll.2.1 108 = .ok (.getfield 19, 3) := by decide +kernel
theorem dX4_carryAll_111 : decode M_X4_carryAll.2.1 111 = .ok (.iload_n 3, 1) := by decide +kernel
theorem dX4_carryAll_112 : decode M_X4_carryAll.2.1 112 = .ok (.aload_n 0, 1) := by decide +kernel
theorem dX4_carryAll_113 : decode M_X4_carryAll.2.1 113 = .ok (.aload_n 0, 1) := by decide +kernel
theorem dX4_carryAll_114 : decode M_X4_carryAll.2.1 114 = .ok (.getfield 19, 3) := by decide +kernel
theorem dX4_carryAll_117 : decode M_X4_carryAll.2.1 117 = .ok (.iload_n 3, 1) := by decide +kernel
theorem dX4_carryAll_118 : decode M_X4_carryAll.2.1 118 = .ok (.iaload, 1) := by decide +kernel
theorem dX4_carryAll_119 : decode M_X4_carryAll.2.1 119 = .ok (.invokevirtual 239, 3) := by decide +kernel
theorem dX4_carryAll_122 : decode M_X4_carryAll.2.1 122 = .ok (.iastore, 1) := by decide +kernel
theorem dX4_carryAll_123 : decode M_X4_carryAll.2.1 123 = .ok (.aload_n 0, 1) := by decide +kernel
theorem dX4_carryAll_124 : decode M_X4_carryAll.2.1 124 = .ok (.getfield 22, 3) := by decide +kernel
theorem dX4_carryAll_127 : decode M_X4_carryAll.2.1 127 = .ok (.iload_n 3, 1) := by decide +kernel
theorem dX4_carryAll_128 : decode M_X4_carryAll.2.1 128 = .ok (.aload_n 0, 1) := by decide +kernel
theorem dX4_carryAll_129 : decode M_X4_carryAll.2.1 129 = .ok (.aload_n 0, 1) := by decide +kernel
theorem dX4_carryAll_130 : decode M_X4_carryAll.2.1 130 = .ok (.getfield 22, 3) := by decide +kernel
theorem dX4_carryAll_133 : decode M_X4_carryAll.2.1 133 = .ok (.iload_n 3, 1) := by decide +kernel
theorem dX4_carryAll_134 : decode M_X4_carryAll.2.1 134 = .ok (.iaload, 1) := by decide +kernel
theorem dX4_carryAll_135 : decode M_X4_carryAll.2.1 135 = .ok (.invokevirtual 239, 3) := by decide +kernel
theorem dX4_carryAll_138 : decode M_X4_carryAll.2.1 138 = .ok (.iastore, 1) := by decide +kernel
theorem dX4_carryAll_139 : decode M_X4_carryAll.2.1 139 = .ok (.iinc 3 1, 3) := by decide +kernel
theorem dX4_carryAll_142 : decode M_X4_carryAll.2.1 142 = .ok (.goto (-89), 3) := by decide +kernel
theorem dX4_carryAll_145 : decode M_X4_carryAll.2.1 145 = .ok (.iconst 0, 1) := by decide +kernel
theorem dX4_carryAll_146 : decode M_X4_carryAll.2.1 146 = .ok (.istore_n 3, 1) := by decide +kernel
theorem dX4_carryAll_147 : decode M_X4_carryAll.2.1 147 = .ok (.iload_n 3, 1) := by decide +kernel
theorem dX4_carryAll_148 : decode M_X4_carryAll.2.1 148 = .ok (.iconst 5, 1) := by decide +kernel
theorem dX4_carryAll_149 : decode M_X4_carryAll.2.1 149 = .ok (.if_icmp .ge 73, 3) := by decide +kernel
theorem dX4_carryAll_152 : decode M_X4_carryAll.2.1 152 = .ok (.aload_n 0, 1) := by decide +kernel
theorem dX4_carryAll_153 : decode M_X4_carryAll.2.1 153 = .ok (.getfield 25, 3) := by decide +kernel
theorem dX4_carryAll_156 : decode M_X4_carryAll.2.1 156 = .ok (.iload_n 3, 1) := by decide +kernel
theorem dX4_carryAll_157 : decode M_X4_carryAll.2.1 157 = .ok (.aload_n 0, 1) := by decide +kernel
theorem dX4_carryAll_158 : decode M_X4_carryAll.2.1 158 = .ok (.aload_n 0, 1) := by decide +kernel
theorem dX4_carryAll_159 : decode M_X4_carryAll.2.1 159 = .ok (.getfield 25, 3) := by decide +kernel
theorem dX4_carryAll_162 : decode M_X4_carryAll.2.1 162 = .ok (.iload_n 3, 1) := by decide +kernel
theorem dX4_carryAll_163 : decode M_X4_carryAll.2.1 163 = .ok (.iaload, 1) := by decide +kernel
theorem dX4_carryAll_164 : decode M_X4_carryAll.2.1 164 = .ok (.invokevirtual 239, 3) := by decide +kernel
theorem dX4_carryAll_167 : decode M_X4_carryAll.2.1 167 = .ok (.iastore, 1) := by decide +kernel
theorem dX4_carryAll_168 : decode M_X4_carryAll.2.1 168 = .ok (.aload_n 0, 1) := by decide +kernel
theorem dX4_carryAll_169 : decode M_X4_carryAll.2.1 169 = .ok (.getfield 28, 3) := by decide +kernel
theorem dX4_carryAll_172 : decode M_X4_carryAll.2.1 172 = .ok (.iload_n 3, 1) := by decide +kernel
theorem dX4_carryAll_173 : decode M_X4_carryAll.2.1 173 = .ok (.aload_n 0, 1) := by decide +kernel
theorem dX4_carryAll_174 : decode M_X4_carryAll.2.1 174 = .ok (.aload_n 0, 1) := by decide +kernel
theorem dX4_carryAll_175 : decode M_X4_carryAll.2.1 175 = .ok (.getfield 28, 3) := by decide +kernel
theorem dX4_carryAll_178 : decode M_X4_carryAll.2.1 178 = .ok (.iload_n 3, 1) := by decide +kernel
theorem dX4_carryAll_179 : decode M_X4_carryAll.2.1 179 = .ok (.iaload, 1) := by decide +kernel
theorem dX4_carryAll_180 : decode M_X4_carryAll.2.1 180 = .ok (.invokevirtual 239, 3) := by decide +kernel
theorem dX4_carryAll_183 : decode M_X4_carryAll.2.1 183 = .ok (.iastore, 1) := by decide +kernel
theorem dX4_carryAll_184 : decode M_X4_carryAll.2.1 184 = .ok (.aload_n 0, 1) := by decide +kernel
theorem dX4_carryAll_185 : decode M_X4_carryAll.2.1 185 = .ok (.getfield 31, 3) := by decide +kernel
theorem dX4_carryAll_188 : decode M_X4_carryAll.2.1 188 = .ok (.iload_n 3, 1) := by decide +kernel
theorem dX4_carryAll_189 : decode M_X4_carryAll.2.1 189 = .ok (.aload_n 0, 1) := by decide +kernel
theorem dX4_carryAll_190 : decode M_X4_carryAll.2.1 190 = .ok (.aload_n 0, 1) := by decide +kernel
theorem dX4_carryAll_191 : decode M_X4_carryAll.2.1 191 = .ok (.getfield 31, 3) := by decide +kernel
theorem dX4_carryAll_194 : decode M_X4_carryAll.2.1 194 = .ok (.iload_n 3, 1) := by decide +kernel
theorem dX4_carryAll_195 : decode M_X4_carryAll.2.1 195 = .ok (.iaload, 1) := by decide +kernel
theorem dX4_carryAll_196 : decode M_X4_carryAll.2.1 196 = .ok (.invokevirtual 239, 3) := by decide +kernel
theorem dX4_carryAll_199 : decode M_X4_carryAll.2.1 199 = .ok (.iastore, 1) := by decide +kernel
theorem dX4_carryAll_200 : decode M_X4_carryAll.2.1 200 = .ok (.aload_n 0, 1) := by decide +kernel
theorem dX4_carryAll_201 : decode M_X4_carryAll.2.1 201 = .ok (.getfield 34, 3) := by decide +kernel
theorem dX4_carryAll_204 : decode M_X4_carryAll.2.1 204 = .ok (.iload_n 3, 1) := by decide +kernel
theorem dX4_carryAll_205 : decode M_X4_carryAll.2.1 205 = .ok (.aload_n 0, 1) := by decide +kernel
theorem dX4_carryAll_206 : decode M_X4_carryAll.2.1 206 = .ok (.aload_n 0, 1) := by decide +kernel
theorem dX4_carryAll_207 : decode M_X4_carryAll.2.1 207 = .ok (.getfield 34, 3) := by decide +kernel
theorem dX4_carryAll_210 : decode M_X4_carryAll.2.1 210 = .ok (.iload_n 3, 1) := by decide +kernel
theorem dX4_carryAll_211 : decode M_X4_carryAll.2.1 211 = .ok (.iaload, 1) := by decide +kernel
theorem dX4_carryAll_212 : decode M_X4_carryAll.2.1 212 = .ok (.invokevirtual 239, 3) := by decide +kernel
theorem dX4_carryAll_215 : decode M_X4_carryAll.2.1 215 = .ok (.iastore, 1) := by decide +kernel
theorem dX4_carryAll_216 : decode M_X4_carryAll.2.1 216 = .ok (.iinc 3 1, 3) := by decide +kernel
theorem dX4_carryAll_219 : decode M_X4_carryAll.2.1 219 = .ok (.goto (-72), 3) := by decide +kernel
theorem dX4_carryAll_222 : decode M_X4_carryAll.2.1 222 = .ok (.return_, 1) := by decide +kernel
theorem hw_X4_233 : a_fw RX4 233 3 32 (.array .int) := ⟨RX4, TX4, 37, tyX4, rfl, tin_X4, by decide, a_in 897 (by decide +kernel) rfl, tyX4_ok, nmX4, rfl, by decide +kernel⟩
theorem hw_X4_230 : a_fw RX4 230 3 31 (.boolean) := ⟨RX4, TX4, 37, tyX4, rfl, tin_X4, by decide, a_in 896 (by decide +kernel) rfl, tyX4_ok, nmX4, rfl, by decide +kernel⟩
theorem hv_X4_239 : a_okV RX4 M_X4_carry 239 := ⟨a_in 1023 (by decide +kernel) rfl, a_in 1025 (by decide +kernel) rfl, a_in 29 (by decide +kernel) rfl⟩
def c_X4_carryAll_147 (a0 : Nat) (a1 : Nat) (a2 : Int32) (k147 : Int32 → aW → Option (Unit × aW)) (b3 : Int32) (w : aW) : Option (Unit × aW) :=
  if (5 : Int32) ≤ b3 then
    some ((), w)
  else
    (gR 3 w a0 7).bind fun r47 =>
    (gR 3 w a0 7).bind fun r48 =>
    (gA w r48 b3).bind fun x49 =>
    cV 3 w a0 (bk (f_X4_carry a0 x49 w) fun x51 w50 =>
    (sA w50 r47 b3 x51).bind fun w52 =>
    (gR 3 w52 a0 8).bind fun r53 =>
    (gR 3 w52 a0 8).bind fun r54 =>
    (gA w52 r54 b3).bind fun x55 =>
    cV 3 w52 a0 (bk (f_X4_carry a0 x55 w52) fun x57 w56 =>
    (sA w56 r53 b3 x57).bind fun w58 =>
    (gR 3 w58 a0 9).bind fun r59 =>
    (gR 3 w58 a0 9).bind fun r60 =>
    (gA w58 r60 b3).bind fun x61 =>
    cV 3 w58 a0 (bk (f_X4_carry a0 x61 w58) fun x63 w62 =>
    (sA w62 r59 b3 x63).bind fun w64 =>
    (gR 3 w64 a0 10).bind fun r65 =>
    (gR 3 w64 a0 10).bind fun r66 =>
    (gA w64 r66 b3).bind fun x67 =>
    cV 3 w64 a0 (bk (f_X4_carry a0 x67 w64) fun x69 w68 =>
    (sA w68 r65 b3 x69).bind fun w70 =>
    k147 (b3 + 1) w70))))
theorem t_X4_carryAll_147 (a0 : Nat) (a1 : Nat) (a2 : Int32) (k147 : Int32 → aW → Option (Unit × aW)) (hk147 : ∀ (b3 : Int32) (w : aW), Ev rvV M_X4_carryAll 147 [some (.ref a0), none, none, some (.int b3)] [] w (k147 b3 w)) (b3 : Int32) (w : aW) : Ev rvV M_X4_carryAll 147 [some (.ref a0), none, none, some (.int b3)] [] w (c_X4_carryAll_147 a0 a1 a2 k147 b3 w) := by
  unfold c_X4_carryAll_147
  refine e_iload_n (pc := 147) dX4_carryAll_147 rfl rfl ?_
  refine e_iconst (pc := 148) dX4_carryAll_148 kc_5 ?_
  refine e_icmp_ge (pc := 149) (tgt := 222) dX4_carryAll_149 (by decide) (fun _ => ?_) (fun _ => ?_)
  · exact e_vret (pc := 222) dX4_carryAll_222 rfl
  · refine e_aload_n (pc := 152) dX4_carryAll_152 rfl rfl ?_
    refine e_getR (pc := 153) dX4_carryAll_153 hs_X4_25 (fun r47 => ?_)
    refine e_iload_n (pc := 156) dX4_carryAll_156 rfl rfl ?_
    refine e_aload_n (pc := 157) dX4_carryAll_157 rfl rfl ?_
    refine e_aload_n (pc := 158) dX4_carryAll_158 rfl rfl ?_
    refine e_getR (pc := 159) dX4_carryAll_159 hs_X4_25 (fun r48 => ?_)
    refine e_iload_n (pc := 162) dX4_carryAll_162 rfl rfl ?_
    refine e_iald (pc := 163) dX4_carryAll_163 (fun x49 => ?_)
    refine e_callV (pc := 164) (av := [.int x49]) (S := [.int b3, .ref r47]) (c0 := 3) rfl rfl ok_X4_carry ⟨Nat.le_of_ble_eq_true rfl, Nat.le_of_ble_eq_true rfl⟩ hv_X4_239 dX4_carryAll_164 (s_X4_carry a0 x49 w) rfl rfl (Nat.le_of_ble_eq_true rfl) (fun x51 w50 => ?_)
    refine e_iast (pc := 167) dX4_carryAll_167 (fun w52 => ?_)
    refine e_aload_n (pc := 168) dX4_carryAll_168 rfl rfl ?_
    refine e_getR (pc := 169) dX4_carryAll_169 hs_X4_28 (fun r53 => ?_)
    refine e_iload_n (pc := 172) dX4_carryAll_172 rfl rfl ?_
    refine e_aload_n (pc := 173) dX4_carryAll_173 rfl rfl ?_
    refine e_aload_n (pc := 174) dX4_carryAll_174 rfl rfl ?_
    refine e_getR (pc := 175) dX4_carryAll_175 hs_X4_28 (fun r54 => ?_)
    refine e_iload_n (pc := 178) dX4_carryAll_178 rfl rfl ?_
    refine e_iald (pc := 179) dX4_carryAll_179 (fun x55 => ?_)
    refine e_callV (pc := 180) (av := [.int x55]) (S := [.int b3, .ref r53]) (c0 := 3) rfl rfl ok_X4_carry ⟨Nat.le_of_ble_eq_true rfl, Nat.le_of_ble_eq_true rfl⟩ hv_X4_239 dX4_carryAll_180 (s_X4_carry a0 x55 w52) rfl rfl (Nat.le_of_ble_eq_true rfl) (fun x57 w56 => ?_)
    refine e_iast (pc := 183) dX4_carryAll_183 (fun w58 => ?_)
    refine e_aload_n (pc := 184) dX4_carryAll_184 rfl rfl ?_
    refine e_getR (pc := 185) dX4_carryAll_185 hs_X4_31 (fun r59 => ?_)
    refine e_iload_n (pc := 188) dX4_carryAll_188 rfl rfl ?_
    refine e_aload_n (pc := 189) dX4_carryAll_189 rfl rfl ?_
    refine e_aload_n (pc := 190) dX4_carryAll_190 rfl rfl ?_
    refine e_getR (pc := 191) dX4_carryAll_191 hs_X4_31 (fun r60 => ?_)
    refine e_iload_n (pc := 194) dX4_carryAll_194 rfl rfl ?_
    refine e_iald (pc := 195) dX4_carryAll_195 (fun x61 => ?_)
    refine e_callV (pc := 196) (av := [.int x61]) (S := [.int b3, .ref r59]) (c0 := 3) rfl rfl ok_X4_carry ⟨Nat.le_of_ble_eq_true rfl, Nat.le_of_ble_eq_true rfl⟩ hv_X4_239 dX4_carryAll_196 (s_X4_carry a0 x61 w58) rfl rfl (Nat.le_of_ble_eq_true rfl) (fun x63 w62 => ?_)
    refine e_iast (pc := 199) dX4_carryAll_199 (fun w64 => ?_)
    refine e_aload_n (pc := 200) dX4_carryAll_200 rfl rfl ?_
    refine e_getR (pc := 201) dX4_carryAll_201 hs_X4_34 (fun r65 => ?_)
    refine e_iload_n (pc := 204) dX4_carryAll_204 rfl rfl ?_
    refine e_aload_n (pc := 205) dX4_carryAll_205 rfl rfl ?_
    refine e_aload_n (pc := 206) dX4_carryAll_206 rfl rfl ?_
    refine e_getR (pc := 207) dX4_carryAll_207 hs_X4_34 (fun r66 => ?_)
    refine e_iload_n (pc := 210) dX4_carryAll_210 rfl rfl ?_
    refine e_iald (pc := 211) dX4_carryAll_211 (fun x67 => ?_)
    refine e_callV (pc := 212) (av := [.int x67]) (S := [.int b3, .ref r65]) (c0 := 3) rfl rfl ok_X4_carry ⟨Nat.le_of_ble_eq_true rfl, Nat.le_of_ble_eq_true rfl⟩ hv_X4_239 dX4_carryAll_212 (s_X4_carry a0 x67 w64) rfl rfl (Nat.le_of_ble_eq_true rfl) (fun x69 w68 => ?_)
    refine e_iast (pc := 215) dX4_carryAll_215 (fun w70 => ?_)
    refine e_iinc (L' := [some (.ref a0), none, none, some (.int (b3 + 1))]) (pc := 216) (v := 1) dX4_carryAll_216 (by decide) rfl kc_1 rfl ?_
    refine e_goto (pc := 219) (tgt := 147) dX4_carryAll_219 (by decide) ?_
    exact hk147 (b3 + 1) w70
def c_X4_carryAll_53 (a0 : Nat) (a1 : Nat) (a2 : Int32) (k53 : Int32 → aW → Option (Unit × aW)) (b3 : Int32) (w : aW) : Option (Unit × aW) :=
  if (9 : Int32) ≤ b3 then
    loop2 (c_X4_carryAll_147 a0 a1 a2) a_fuel (0 : Int32) w
  else
    (gR 3 w a0 1).bind fun r17 =>
    (gR 3 w a0 1).bind fun r18 =>
    (gA w r18 b3).bind fun x19 =>
    cV 3 w a0 (bk (f_X4_carry a0 x19 w) fun x21 w20 =>
    (sA w20 r17 b3 x21).bind fun w22 =>
    (gR 3 w22 a0 2).bind fun r23 =>
    (gR 3 w22 a0 2).bind fun r24 =>
    (gA w22 r24 b3).bind fun x25 =>
    cV 3 w22 a0 (bk (f_X4_carry a0 x25 w22) fun x27 w26 =>
    (sA w26 r23 b3 x27).bind fun w28 =>
    (gR 3 w28 a0 3).bind fun r29 =>
    (gR 3 w28 a0 3).bind fun r30 =>
    (gA w28 r30 b3).bind fun x31 =>
    cV 3 w28 a0 (bk (f_X4_carry a0 x31 w28) fun x33 w32 =>
    (sA w32 r29 b3 x33).bind fun w34 =>
    (gR 3 w34 a0 4).bind fun r35 =>
    (gR 3 w34 a0 4).bind fun r36 =>
    (gA w34 r36 b3).bind fun x37 =>
    cV 3 w34 a0 (bk (f_X4_carry a0 x37 w34) fun x39 w38 =>
    (sA w38 r35 b3 x39).bind fun w40 =>
    (gR 3 w40 a0 5).bind fun r41 =>
    (gR 3 w40 a0 5).bind fun r42 =>
    (gA w40 r42 b3).bind fun x43 =>
    cV 3 w40 a0 (bk (f_X4_carry a0 x43 w40) fun x45 w44 =>
    (sA w44 r41 b3 x45).bind fun w46 =>
    k53 (b3 + 1) w46)))))
theorem t_X4_carryAll_53 (a0 : Nat) (a1 : Nat) (a2 : Int32) (k53 : Int32 → aW → Option (Unit × aW)) (hk53 : ∀ (b3 : Int32) (w : aW), Ev rvV M_X4_carryAll 53 [some (.ref a0), none, none, some (.int b3)] [] w (k53 b3 w)) (b3 : Int32) (w : aW) : Ev rvV M_X4_carryAll 53 [some (.ref a0), none, none, some (.int b3)] [] w (c_X4_carryAll_53 a0 a1 a2 k53 b3 w) := by
  unfold c_X4_carryAll_53
  refine e_iload_n (pc := 53) dX4_carryAll_53 rfl rfl ?_
  refine e_bipush (pc := 54) dX4_carryAll_54 kb_9 ?_
  refine e_icmp_ge (pc := 56) (tgt := 145) dX4_carryAll_56 (by decide) (fun _ => ?_) (fun _ => ?_)
  · refine e_iconst (pc := 145) dX4_carryAll_145 kc_0 ?_
    refine e_istore_n (L' := [some (.ref a0), none, none, some (.int (0 : Int32))]) (pc := 146) dX4_carryAll_146 rfl (by decide) rfl ?_
    exact e_loop2 (L := fun b3 => [some (.ref a0), none, none, some (.int b3)]) (S := fun b3 => []) (fun kf hkf => t_X4_carryAll_147 a0 a1 a2  kf hkf) _ (0 : Int32) w
  · refine e_aload_n (pc := 59) dX4_carryAll_59 rfl rfl ?_
    refine e_getR (pc := 60) dX4_carryAll_60 hs_X4_7 (fun r17 => ?_)
    refine e_iload_n (pc := 63) dX4_carryAll_63 rfl rfl ?_
    refine e_aload_n (pc := 64) dX4_carryAll_64 rfl rfl ?_
    refine e_aload_n (pc := 65) dX4_carryAll_65 rfl rfl ?_
    refine e_getR (pc := 66) dX4_carryAll_66 hs_X4_7 (fun r18 => ?_)
    refine e_iload_n (pc := 69) dX4_carryAll_69 rfl rfl ?_
    refine e_iald (pc := 70) dX4_carryAll_70 (fun x19 => ?_)
    refine e_callV (pc := 71) (av := [.int x19]) (S := [.int b3, .ref r17]) (c0 := 3) rfl rfl ok_X4_carry ⟨Nat.le_of_ble_eq_true rfl, Nat.le_of_ble_eq_true rfl⟩ hv_X4_239 dX4_carryAll_71 (s_X4_carry a0 x19 w) rfl rfl (Nat.le_of_ble_eq_true rfl) (fun x21 w20 => ?_)
    refine e_iast (pc := 74) dX4_carryAll_74 (fun w22 => ?_)
    refine e_aload_n (pc := 75) dX4_carryAll_75 rfl rfl ?_
    refine e_getR (pc := 76) dX4_carryAll_76 hs_X4_13 (fun r23 => ?_)
    refine e_iload_n (pc := 79) dX4_carryAll_79 rfl rfl ?_
    refine e_aload_n (pc := 80) dX4_carryAll_80 rfl rfl ?_
    refine e_aload_n (pc := 81) dX4_carryAll_81 rfl rfl ?_
    refine e_getR (pc := 82) dX4_carryAll_82 hs_X4_13 (fun r24 => ?_)
    refine e_iload_n (pc := 85) dX4_carryAll_85 rfl rfl ?_
    refine e_iald (pc := 86) dX4_carryAll_86 (fun x25 => ?_)
    refine e_callV (pc := 87) (av := [.int x25]) (S := [.int b3, .ref r23]) (c0 := 3) rfl rfl ok_X4_carry ⟨Nat.le_of_ble_eq_true rfl, Nat.le_of_ble_eq_true rfl⟩ hv_X4_239 dX4_carryAll_87 (s_X4_carry a0 x25 w22) rfl rfl (Nat.le_of_ble_eq_true rfl) (fun x27 w26 => ?_)
    refine e_iast (pc := 90) dX4_carryAll_90 (fun w28 => ?_)
    refine e_aload_n (pc := 91) dX4_carryAll_91 rfl rfl ?_
    refine e_getR (pc := 92) dX4_carryAll_92 hs_X4_16 (fun r29 => ?_)
    refine e_iload_n (pc := 95) dX4_carryAll_95 rfl rfl ?_
    refine e_aload_n (pc := 96) dX4_carryAll_96 rfl rfl ?_
    refine e_aload_n (pc := 97) dX4_carryAll_97 rfl rfl ?_
    refine e_getR (pc := 98) dX4_carryAll_98 hs_X4_16 (fun r30 => ?_)
    refine e_iload_n (pc := 101) dX4_carryAll_101 rfl rfl ?_
    refine e_iald (pc := 102) dX4_carryAll_102 (fun x31 => ?_)
    refine e_callV (pc := 103) (av := [.int x31]) (S := [.int b3, .ref r29]) (c0 := 3) rfl rfl ok_X4_carry ⟨Nat.le_of_ble_eq_true rfl, Nat.le_of_ble_eq_true rfl⟩ hv_X4_239 dX4_carryAll_103 (s_X4_carry a0 x31 w28) rfl rfl (Nat.le_of_ble_eq_true rfl) (fun x33 w32 => ?_)
    refine e_iast (pc := 106) dX4_carryAll_106 (fun w34 => ?_)
    refine e_aload_n (pc := 107) dX4_carryAll_107 rfl rfl ?_
    refine e_getR (pc := 108) dX4_carryAll_108 hs_X4_19 (fun r35 => ?_)
    refine e_iload_n (pc := 111) dX4_carryAll_111 rfl rfl ?_
    refine e_aload_n (pc := 112) dX4_carryAll_112 rfl rfl ?_
    refine e_aload_n (pc := 113) dX4_carryAll_113 rfl rfl ?_
    refine e_getR (pc := 114) dX4_carryAll_114 hs_X4_19 (fun r36 => ?_)
    refine e_iload_n (pc := 117) dX4_carryAll_117 rfl rfl ?_
    refine e_iald (pc := 118) dX4_carryAll_118 (fun x37 => ?_)
    refine e_callV (pc := 119) (av := [.int x37]) (S := [.int b3, .ref r35]) (c0 := 3) rfl rfl ok_X4_carry ⟨Nat.le_of_ble_eq_true rfl, Nat.le_of_ble_eq_true rfl⟩ hv_X4_239 dX4_carryAll_119 (s_X4_carry a0 x37 w34) rfl rfl (Nat.le_of_ble_eq_true rfl) (fun x39 w38 => ?_)
    refine e_iast (pc := 122) dX4_carryAll_122 (fun w40 => ?_)
    refine e_aload_n (pc := 123) dX4_carryAll_123 rfl rfl ?_
    refine e_getR (pc := 124) dX4_carryAll_124 hs_X4_22 (fun r41 => ?_)
    refine e_iload_n (pc := 127) dX4_carryAll_127 rfl rfl ?_
    refine e_aload_n (pc := 128) dX4_carryAll_128 rfl rfl ?_
    refine e_aload_n (pc := 129) dX4_carryAll_129 rfl rfl ?_
    refine e_getR (pc := 130) dX4_carryAll_130 hs_X4_22 (fun r42 => ?_)
    refine e_iload_n (pc := 133) dX4_carryAll_133 rfl rfl ?_
    refine e_iald (pc := 134) dX4_carryAll_134 (fun x43 => ?_)
    refine e_callV (pc := 135) (av := [.int x43]) (S := [.int b3, .ref r41]) (c0 := 3) rfl rfl ok_X4_carry ⟨Nat.le_of_ble_eq_true rfl, Nat.le_of_ble_eq_true rfl⟩ hv_X4_239 dX4_carryAll_135 (s_X4_carry a0 x43 w40) rfl rfl (Nat.le_of_ble_eq_true rfl) (fun x45 w44 => ?_)
    refine e_iast (pc := 138) dX4_carryAll_138 (fun w46 => ?_)
    refine e_iinc (L' := [some (.ref a0), none, none, some (.int (b3 + 1))]) (pc := 139) (v := 1) dX4_carryAll_139 (by decide) rfl kc_1 rfl ?_
    refine e_goto (pc := 142) (tgt := 53) dX4_carryAll_142 (by decide) ?_
    exact hk53 (b3 + 1) w46
def f_X4_carryAll (a0 : Nat) (a1 : Nat) (a2 : Int32) (w : aW) : Option (Unit × aW) :=
  (sF 3 w a0 32 (.ref a1)).bind fun w1 =>
  if ¬ (a2 = 0 ∨ a2 = 1) then none else
  (sF 3 w1 a0 31 (.int a2)).bind fun w2 =>
  (sF 3 w2 a0 30 (.int (0 : Int32))).bind fun w4 =>
  (gI 3 w4 a0 0).bind fun x5 =>
  cV 3 w4 a0 (bk (f_X4_carry a0 x5 w4) fun x7 w6 =>
  (sF 3 w6 a0 0 (.int x7)).bind fun w8 =>
  (gI 3 w8 a0 6).bind fun x9 =>
  cV 3 w8 a0 (bk (f_X4_carry a0 x9 w8) fun x11 w10 =>
  (sF 3 w10 a0 6 (.int x11)).bind fun w12 =>
  (gI 3 w12 a0 11).bind fun x13 =>
  cV 3 w12 a0 (bk (f_X4_carry a0 x13 w12) fun x15 w14 =>
  (sF 3 w14 a0 11 (.int x15)).bind fun w16 =>
  loop2 (c_X4_carryAll_53 a0 a1 a2) a_fuel (0 : Int32) w16)))
theorem s_X4_carryAll (a0 : Nat) (a1 : Nat) (a2 : Int32) (w : aW) : Sp rvV M_X4_carryAll [.ref a0, .ref a1, .int a2] w (f_X4_carryAll a0 a1 a2 w) := by
  refine e_entry [some (.ref a0), some (.ref a1), some (.int a2), none] (by decide +kernel) (Nat.le_of_ble_eq_true rfl) (fun _ => rfl) ?_
  unfold f_X4_carryAll
  refine e_aload_n (pc := 0) dX4_carryAll_0 rfl rfl ?_
  refine e_aload_n (pc := 1) dX4_carryAll_1 rfl rfl ?_
  refine e_put (pc := 2) dX4_carryAll_2 hw_X4_233 (fun _ => rfl) (fun _ => rfl) (fun w1 => ?_)
  refine e_aload_n (pc := 5) dX4_carryAll_5 rfl rfl ?_
  refine e_iload_n (pc := 6) dX4_carryAll_6 rfl rfl ?_
  refine e_chk (fun h3 => ?_)
  refine e_put (pc := 7) dX4_carryAll_7 hw_X4_230 (fun _ => a_nb (Decidable.not_not.mp h3)) (fun _ => a_fb (Decidable.not_not.mp h3)) (fun w2 => ?_)
  refine e_aload_n (pc := 10) dX4_carryAll_10 rfl rfl ?_
  refine e_iconst (pc := 11) dX4_carryAll_11 kc_0 ?_
  refine e_put (pc := 12) dX4_carryAll_12 hw_X4_236 (fun _ => rfl) (fun _ => rfl) (fun w4 => ?_)
  refine e_aload_n (pc := 15) dX4_carryAll_15 rfl rfl ?_
  refine e_aload_n (pc := 16) dX4_carryAll_16 rfl rfl ?_
  refine e_aload_n (pc := 17) dX4_carryAll_17 rfl rfl ?_
  refine e_getI (pc := 18) dX4_carryAll_18 hs_X4_92 (fun x5 => ?_)
  refine e_callV (pc := 21) (av := [.int x5]) (S := [.ref a0]) (c0 := 3) rfl rfl ok_X4_carry ⟨Nat.le_of_ble_eq_true rfl, Nat.le_of_ble_eq_true rfl⟩ hv_X4_239 dX4_carryAll_21 (s_X4_carry a0 x5 w4) rfl rfl (Nat.le_of_ble_eq_true rfl) (fun x7 w6 => ?_)
  refine e_put (pc := 24) dX4_carryAll_24 hw_X4_92 (fun _ => rfl) (fun _ => rfl) (fun w8 => ?_)
  refine e_aload_n (pc := 27) dX4_carryAll_27 rfl rfl ?_
  refine e_aload_n (pc := 28) dX4_carryAll_28 rfl rfl ?_
  refine e_aload_n (pc := 29) dX4_carryAll_29 rfl rfl ?_
  refine e_getI (pc := 30) dX4_carryAll_30 hs_X4_107 (fun x9 => ?_)
  refine e_callV (pc := 33) (av := [.int x9]) (S := [.ref a0]) (c0 := 3) rfl rfl ok_X4_carry ⟨Nat.le_of_ble_eq_true rfl, Nat.le_of_ble_eq_true rfl⟩ hv_X4_239 dX4_carryAll_33 (s_X4_carry a0 x9 w8) rfl rfl (Nat.le_of_ble_eq_true rfl) (fun x11 w10 => ?_)
  refine e_put (pc := 36) dX4_carryAll_36 hw_X4_107 (fun _ => rfl) (fun _ => rfl) (fun w12 => ?_)
  refine e_aload_n (pc := 39) dX4_carryAll_39 rfl rfl ?_
  refine e_aload_n (pc := 40) dX4_carryAll_40 rfl rfl ?_
  refine e_aload_n (pc := 41) dX4_carryAll_41 rfl rfl ?_
  refine e_getI (pc := 42) dX4_carryAll_42 hs_X4_124 (fun x13 => ?_)
  refine e_callV (pc := 45) (av := [.int x13]) (S := [.ref a0]) (c0 := 3) rfl rfl ok_X4_carry ⟨Nat.le_of_ble_eq_true rfl, Nat.le_of_ble_eq_true rfl⟩ hv_X4_239 dX4_carryAll_45 (s_X4_carry a0 x13 w12) rfl rfl (Nat.le_of_ble_eq_true rfl) (fun x15 w14 => ?_)
  refine e_put (pc := 48) dX4_carryAll_48 hw_X4_124 (fun _ => rfl) (fun _ => rfl) (fun w16 => ?_)
  refine e_iconst (pc := 51) dX4_carryAll_51 kc_0 ?_
  refine e_istore_n (L' := [some (.ref a0), some (.ref a1), some (.int a2), some (.int (0 : Int32))]) (pc := 52) dX4_carryAll_52 rfl (by decide) rfl ?_
  refine e_forget (L2 := [some (.ref a0), none, none, some (.int (0 : Int32))]) (And.intro rfl (And.intro rfl trivial)) ?_
  exact e_loop2 (L := fun b3 => [some (.ref a0), none, none, some (.int b3)]) (S := fun b3 => []) (fun kf hkf => t_X4_carryAll_53 a0 a1 a2  kf hkf) _ (0 : Int32) w16
def M_X4_think : aM := (yX4_think, cX4_think, 1, none, 2, 44)
theorem ok_X4_think : a_okM M_X4_think 0 := ⟨⟨by decide +kernel, by decide +kernel⟩, by decide +kernel, a_in 1018 (by decide +kernel) rfl, a_in 79 (by decide +kernel) rfl⟩
theorem dX4_think_0 : decode M_X4_think.2.1 0 = .ok (.aload_n 0, 1) := by decide +kernel
theorem dX4_think_1 : decode M_X4_think.2.1 1 = .ok (.aload_n 0, 1) := by decide +kernel
theorem dX4_think_2 : decode M_X4_think.2.1 2 = .ok (.getfield 65, 3) := by decide +kernel
theorem dX4_think_5 : decode M_X4_think.2.1 5 = .ok (.iconst 1, 1) := by decide +kernel
theorem dX4_think_6 : decode M_X4_think.2.1 6 = .ok (.invokevirtual 242, 3) := by decide +kernel
theorem dX4_think_9 : decode M_X4_think.2.1 9 = .ok (.return_, 1) := by decide +kernel
theorem hs_X4_65 : a_fs RX4 65 3 27 := ⟨RX4, TX4, 37, rfl, tin_X4, by decide, a_in 892 (by decide +kernel) rfl⟩
theorem hv_X4_242 : a_okV RX4 M_X4_carryAll 242 := ⟨a_in 1019 (by decide +kernel) rfl, a_in 1021 (by decide +kernel) rfl, a_in 28 (by decide +kernel) rfl⟩
def f_X4_think (a0 : Nat) (w : aW) : Option (Unit × aW) :=
  (gR 3 w a0 27).bind fun r1 =>
  cV 3 w a0 (bk (f_X4_carryAll a0 r1 (1 : Int32) w) fun _ w2 =>
  some ((), w2))
theorem s_X4_think (a0 : Nat) (w : aW) : Sp rvV M_X4_think [.ref a0] w (f_X4_think a0 w) := by
  refine e_entry [some (.ref a0)] (by decide +kernel) (Nat.le_of_ble_eq_true rfl) (fun _ => rfl) ?_
  unfold f_X4_think
  refine e_aload_n (pc := 0) dX4_think_0 rfl rfl ?_
  refine e_aload_n (pc := 1) dX4_think_1 rfl rfl ?_
  refine e_getR (pc := 2) dX4_think_2 hs_X4_65 (fun r1 => ?_)
  refine e_iconst (pc := 5) dX4_think_5 kc_1 ?_
  refine e_callV (pc := 6) (av := [.ref r1, .int (1 : Int32)]) (S := []) (c0 := 3) rfl rfl ok_X4_carryAll ⟨Nat.le_of_ble_eq_true rfl, Nat.le_of_ble_eq_true rfl⟩ hv_X4_242 dX4_think_6 (s_X4_carryAll a0 r1 (1 : Int32) w) rfl rfl (Nat.le_of_ble_eq_true rfl) (fun _ w2 => ?_)
  exact e_vret (pc := 9) dX4_think_9 rfl
def M_X4_again : aM := (yX4_again, cX4_again, 1, none, 2, 44)
theorem ok_X4_again : a_okM M_X4_again 0 := ⟨⟨by decide +kernel, by decide +kernel⟩, by decide +kernel, a_in 1128 (by decide +kernel) rfl, a_in 79 (by decide +kernel) rfl⟩
theorem dX4_again_0 : decode M_X4_again.2.1 0 = .ok (.aload_n 0, 1) := by decide +kernel
theorem dX4_again_1 : decode M_X4_again.2.1 1 = .ok (.aload_n 0, 1) := by decide +kernel
theorem dX4_again_2 : decode M_X4_again.2.1 2 = .ok (.getfield 65, 3) := by decide +kernel
theorem dX4_again_5 : decode M_X4_again.2.1 5 = .ok (.iconst 0, 1) := by decide +kernel
theorem dX4_again_6 : decode M_X4_again.2.1 6 = .ok (.invokevirtual 242, 3) := by decide +kernel
theorem dX4_again_9 : decode M_X4_again.2.1 9 = .ok (.return_, 1) := by decide +kernel
def f_X4_again (a0 : Nat) (w : aW) : Option (Unit × aW) :=
  (gR 3 w a0 27).bind fun r1 =>
  cV 3 w a0 (bk (f_X4_carryAll a0 r1 (0 : Int32) w) fun _ w2 =>
  some ((), w2))
theorem s_X4_again (a0 : Nat) (w : aW) : Sp rvV M_X4_again [.ref a0] w (f_X4_again a0 w) := by
  refine e_entry [some (.ref a0)] (by decide +kernel) (Nat.le_of_ble_eq_true rfl) (fun _ => rfl) ?_
  unfold f_X4_again
  refine e_aload_n (pc := 0) dX4_again_0 rfl rfl ?_
  refine e_aload_n (pc := 1) dX4_again_1 rfl rfl ?_
  refine e_getR (pc := 2) dX4_again_2 hs_X4_65 (fun r1 => ?_)
  refine e_iconst (pc := 5) dX4_again_5 kc_0 ?_
  refine e_callV (pc := 6) (av := [.ref r1, .int (0 : Int32)]) (S := []) (c0 := 3) rfl rfl ok_X4_carryAll ⟨Nat.le_of_ble_eq_true rfl, Nat.le_of_ble_eq_true rfl⟩ hv_X4_242 dX4_again_6 (s_X4_carryAll a0 r1 (0 : Int32) w) rfl rfl (Nat.le_of_ble_eq_true rfl) (fun _ w2 => ?_)
  exact e_vret (pc := 9) dX4_again_9 rfl
def M_X4_mountain : aM := (yX4_mountain, cX4_mountain, 4, (some .int), 8, 179)
theorem ok_X4_mountain : a_okM M_X4_mountain 1 := ⟨⟨by decide +kernel, by decide +kernel⟩, by decide +kernel, a_in 985 (by decide +kernel) rfl, a_in 79 (by decide +kernel) rfl⟩
theorem dX4_mountain_0 : decode M_X4_mountain.2.1 0 = .ok (.aload_n 0, 1) := by decide +kernel
theorem dX4_mountain_1 : decode M_X4_mountain.2.1 1 = .ok (.iconst 0, 1) := by decide +kernel
theorem dX4_mountain_2 : decode M_X4_mountain.2.1 2 = .ok (.putfield 80, 3) := by decide +kernel
theorem dX4_mountain_5 : decode M_X4_mountain.2.1 5 = .ok (.aload_n 0, 1) := by decide +kernel
theorem dX4_mountain_6 : decode M_X4_mountain.2.1 6 = .ok (.iload_n 1, 1) := by decide +kernel
theorem dX4_mountain_7 : decode M_X4_mountain.2.1 7 = .ok (.invokevirtual 215, 3) := by decide +kernel
theorem dX4_mountain_10 : decode M_X4_mountain.2.1 10 = .ok (.istore_n 2, 1) := by decide +kernel
theorem dX4_mountain_11 : decode M_X4_mountain.2.1 11 = .ok (.iload_n 2, 1) := by decide +kernel
theorem dX4_mountain_12 : decode M_X4_mountain.2.1 12 = .ok (.ifCond .ne 17, 3) := by decide +kernel
theorem dX4_mountain_15 : decode M_X4_mountain.2.1 15 = .ok (.aload_n 0, 1) := by decide +kernel
theorem dX4_mountain_16 : decode M_X4_mountain.2.1 16 = .ok (.getfield 46, 3) := by decide +kernel
theorem dX4_mountain_19 : decode M_X4_mountain.2.1 19 = .ok (.iload_n 1, 1) := by decide +kernel
theorem dX4_mountain_20 : decode M_X4_mountain.2.1 20 = .ok (.iaload, 1) := by decide +kernel
theorem dX4_mountain_21 : decode M_X4_mountain.2.1 21 = .ok (.ifCond .eq 8, 3) := by decide +kernel
theorem dX4_mountain_24 : decode M_X4_mountain.2.1 24 = .ok (.bipush (-12), 2) := by decide +kernel
theorem dX4_mountain_26 : decode M_X4_mountain.2.1 26 = .ok (.goto 4, 3) := by decide +kernel
theorem dX4_mountain_29 : decode M_X4_mountain.2.1 29 = .ok (.iload_n 2, 1) := by decide +kernel
theorem dX4_mountain_30 : decode M_X4_mountain.2.1 30 = .ok (.istore_n 2, 1) := by decide +kernel
theorem dX4_mountain_31 : decode M_X4_mountain.2.1 31 = .ok (.iload_n 2, 1) := by decide +kernel
theorem dX4_mountain_32 : decode M_X4_mountain.2.1 32 = .ok (.ifCond .ge 5, 3) := by decide +kernel
theorem dX4_mountain_35 : decode M_X4_mountain.2.1 35 = .ok (.iload_n 2, 1) := by decide +kernel
theorem dX4_mountain_36 : decode M_X4_mountain.2.1 36 = .ok (.ireturn, 1) := by decide +kernel
theorem dX4_mountain_37 : decode M_X4_mountain.2.1 37 = .ok (.aload_n 0, 1) := by decide +kernel
theorem dX4_mountain_38 : decode M_X4_mountain.2.1 38 = .ok (.iload_n 1, 1) := by decide +kernel
theorem dX4_mountain_39 : decode M_X4_mountain.2.1 39 = .ok (.putfield 155, 3) := by decide +kernel
theorem dX4_mountain_42 : decode M_X4_mountain.2.1 42 = .ok (.aload_n 0, 1) := by decide +kernel
theorem dX4_mountain_43 : decode M_X4_mountain.2.1 43 = .ok (.iconst 0, 1) := by decide +kernel
theorem dX4_mountain_44 : decode M_X4_mountain.2.1 44 = .ok (.putfield 152, 3) := by decide +kernel
theorem dX4_mountain_47 : decode M_X4_mountain.2.1 47 = .ok (.aload_n 0, 1) := by decide +kernel
theorem dX4_mountain_48 : decode M_X4_mountain.2.1 48 = .ok (.iconst 0, 1) := by decide +kernel
theorem dX4_mountain_49 : decode M_X4_mountain.2.1 49 = .ok (.putfield 158, 3) := by decide +kernel
theorem dX4_mountain_52 : decode M_X4_mountain.2.1 52 = .ok (.aload_n 0, 1) := by decide +kernel
theorem dX4_mountain_53 : decode M_X4_mountain.2.1 53 = .ok (.iconst 0, 1) := by decide +kernel
theorem dX4_mountain_54 : decode M_X4_mountain.2.1 54 = .ok (.putfield 172, 3) := by decide +kernel
theorem dX4_mountain_57 : decode M_X4_mountain.2.1 57 = .ok (.aload_n 0, 1) := by decide +kernel
theorem dX4_mountain_58 : decode M_X4_mountain.2.1 58 = .ok (.getfield 158, 3) := by decide +kernel
theorem dX4_mountain_61 : decode M_X4_mountain.2.1 61 = .ok (.ifCond .ne 30, 3) := by decide +kernel
theorem dX4_mountain_64 : decode M_X4_mountain.2.1 64 = .ok (.aload_n 0, 1) := by decide +kernel
theorem dX4_mountain_65 : decode M_X4_mountain.2.1 65 = .ok (.getfield 172, 3) := by decide +kernel
theorem dX4_mountain_68 : decode M_X4_mountain.2.1 68 = .ok (.ifCond .eq 16, 3) := by decide +kernel
theorem dX4_mountain_71 : decode M_X4_mountain.2.1 71 = .ok (.aload_n 0, 1) := by decide +kernel
theorem dX4_mountain_72 : decode M_X4_mountain.2.1 72 = .ok (.getfield 152, 3) := by decide +kernel
theorem dX4_mountain_75 : decode M_X4_mountain.2.1 75 = .ok (.aload_n 0, 1) := by decide +kernel
theorem dX4_mountain_76 : decode M_X4_mountain.2.1 76 = .ok (.getfield 49, 3) := by decide +kernel
theorem dX4_mountain_79 : decode M_X4_mountain.2.1 79 = .ok (.iload_n 1, 1) := by decide +kernel
theorem dX4_mountain_80 : decode M_X4_mountain.2.1 80 = .ok (.iaload, 1) := by decide +kernel
theorem dX4_mountain_81 : decode M_X4_mountain.2.1 81 = .ok (.if_icmp .ge 10, 3) := by decide +kernel
theorem dX4_mountain_84 : decode M_X4_mountain.2.1 84 = .ok (.aload_n 0, 1) := by decide +kernel
theorem dX4_mountain_85 : decode M_X4_mountain.2.1 85 = .ok (.invokevirtual 218, 3) := by decide +kernel
theorem dX4_mountain_88 : decode M_X4_mountain.2.1 88 = .ok (.goto (-31), 3) := by decide +kernel
theorem dX4_mountain_91 : decode M_X4_mountain.2.1 91 = .ok (.aload_n 0, 1) := by decide +kernel
theorem dX4_mountain_92 : decode M_X4_mountain.2.1 92 = .ok (.getfield 158, 3) := by decide +kernel
theorem dX4_mountain_95 : decode M_X4_mountain.2.1 95 = .ok (.ifCond .eq 12, 3) := by decide +kernel
theorem dX4_mountain_98 : decode M_X4_mountain.2.1 98 = .ok (.sipush (-1000), 3) := by decide +kernel
theorem dX4_mountain_101 : decode M_X4_mountain.2.1 101 = .ok (.aload_n 0, 1) := by decide +kernel
theorem dX4_mountain_102 : decode M_X4_mountain.2.1 102 = .ok (.getfield 152, 3) := by decide +kernel
theorem dX4_mountain_105 : decode M_X4_mountain.2.1 105 = .ok (.isub, 1) := by decide +kernel
theorem dX4_mountain_106 : decode M_X4_mountain.2.1 106 = .ok (.ireturn, 1) := by decide +kernel
theorem dX4_mountain_107 : decode M_X4_mountain.2.1 107 = .ok (.aload_n 0, 1) := by decide +kernel
theorem dX4_mountain_108 : decode M_X4_mountain.2.1 108 = .ok (.invokevirtual 221, 3) := by decide +kernel
theorem dX4_mountain_111 : decode M_X4_mountain.2.1 111 = .ok (.iconst 0, 1) := by decide +kernel
theorem dX4_mountain_112 : decode M_X4_mountain.2.1 112 = .ok (.istore_n 3, 1) := by decide +kernel
theorem dX4_mountain_113 : decode M_X4_mountain.2.1 113 = .ok (.iload_n 3, 1) := by decide +kernel
theorem dX4_mountain_114 : decode M_X4_mountain.2.1 114 = .ok (.aload_n 0, 1) := by decide +kernel
theorem dX4_mountain_115 : decode M_X4_mountain.2.1 115 = .ok (.getfield 172, 3) := by decide +kernel
theorem dX4_mountain_118 : decode M_X4_mountain.2.1 118 = .ok (.if_icmp .ge 32, 3) := by decide +kernel
theorem dX4_mountain_121 : decode M_X4_mountain.2.1 121 = .ok (.aload_n 0, 1) := by decide +kernel
theorem dX4_mountain_122 : decode M_X4_mountain.2.1 122 = .ok (.iload_n 3, 1) := by decide +kernel
theorem dX4_mountain_123 : decode M_X4_mountain.2.1 123 = .ok (.invokevirtual 224, 3) := by decide +kernel
theorem dX4_mountain_126 : decode M_X4_mountain.2.1 126 = .ok (.ifCond .ne 18, 3) := by decide +kernel
theorem dX4_mountain_129 : decode M_X4_mountain.2.1 129 = .ok (.aload_n 0, 1) := by decide +kernel
theorem dX4_mountain_130 : decode M_X4_mountain.2.1 130 = .ok (.invokevirtual 227, 3) := by decide +kernel
theorem dX4_mountain_133 : decode M_X4_mountain.2.1 133 = .ok (.sipush (-2000), 3) := by decide +kernel
theorem dX4_mountain_136 : decode M_X4_mountain.2.1 136 = .ok (.aload_n 0, 1) := by decide +kernel
theorem dX4_mountain_137 : decode M_X4_mountain.2.1 137 = .ok (.getfield 56, 3) := by decide +kernel
theorem dX4_mountain_140 : decode M_X4_mountain.2.1 140 = .ok (.iload_n 3, 1) := by decide +kernel
theorem dX4_mountain_141 : decode M_X4_mountain.2.1 141 = .ok (.iaload, 1) := by decide +kernel
theorem dX4_mountain_142 : decode M_X4_mountain.2.1 142 = .ok (.isub, 1) := by decide +kernel
theorem dX4_mountain_143 : decode M_X4_mountain.2.1 143 = .ok (.ireturn, 1) := by decide +kernel
theorem dX4_mountain_144 : decode M_X4_mountain.2.1 144 = .ok (.iinc 3 1, 3) := by decide +kernel
theorem dX4_mountain_147 : decode M_X4_mountain.2.1 147 = .ok (.goto (-34), 3) := by decide +kernel
theorem dX4_mountain_150 : decode M_X4_mountain.2.1 150 = .ok (.aload_n 0, 1) := by decide +kernel
theorem dX4_mountain_151 : decode M_X4_mountain.2.1 151 = .ok (.getfield 172, 3) := by decide +kernel
theorem dX4_mountain_154 : decode M_X4_mountain.2.1 154 = .ok (.ireturn, 1) := by decide +kernel
theorem hw_X4_80 : a_fw RX4 80 3 19 (.int) := ⟨RX4, TX4, 37, tyX4, rfl, tin_X4, by decide, a_in 884 (by decide +kernel) rfl, tyX4_ok, nmX4, rfl, by decide +kernel⟩
theorem hv_X4_215 : a_okV RX4 M_X4_wrongRow 215 := ⟨a_in 986 (by decide +kernel) rfl, a_in 988 (by decide +kernel) rfl, a_in 22 (by decide +kernel) rfl⟩
theorem hs_X4_46 : a_fs RX4 46 3 16 := ⟨RX4, TX4, 37, rfl, tin_X4, by decide, a_in 881 (by decide +kernel) rfl⟩
theorem hw_X4_155 : a_fw RX4 155 3 20 (.int) := ⟨RX4, TX4, 37, tyX4, rfl, tin_X4, by decide, a_in 885 (by decide +kernel) rfl, tyX4_ok, nmX4, rfl, by decide +kernel⟩
theorem hv_X4_218 : a_okV RX4 M_X4_readStatement 218 := ⟨a_in 994 (by decide +kernel) rfl, a_in 996 (by decide +kernel) rfl, a_in 23 (by decide +kernel) rfl⟩
theorem hv_X4_221 : a_okV RX4 M_X4_think 221 := ⟨a_in 1015 (by decide +kernel) rfl, a_in 1017 (by decide +kernel) rfl, a_in 27 (by decide +kernel) rfl⟩
theorem hv_X4_224 : a_okV RX4 M_X4_comesTold 224 := ⟨a_in 1027 (by decide +kernel) rfl, a_in 1029 (by decide +kernel) rfl, a_in 30 (by decide +kernel) rfl⟩
theorem hv_X4_227 : a_okV RX4 M_X4_again 227 := ⟨a_in 1125 (by decide +kernel) rfl, a_in 1127 (by decide +kernel) rfl, a_in 50 (by decide +kernel) rfl⟩
def c_X4_mountain_113 (a0 : Nat) (a1 : Int32) (k113 : Int32 → aW → Option (Int32 × aW)) (b3 : Int32) (w : aW) : Option (Int32 × aW) :=
  (gI 3 w a0 23).bind fun x20 =>
  if x20 ≤ b3 then
    (gI 3 w a0 23).bind fun x21 =>
    some (x21, w)
  else
    cV 3 w a0 (bk (f_X4_comesTold a0 b3 w) fun x23 w22 =>
    if ¬ x23 = (0 : Int32) then
      k113 (b3 + 1) w22
    else
      cV 3 w22 a0 (bk (f_X4_again a0 w22) fun _ w24 =>
      (gR 3 w24 a0 24).bind fun r25 =>
      (gA w24 r25 b3).bind fun x26 =>
      some (((-2000 : Int32) - x26), w24)))
theorem t_X4_mountain_113 (a0 : Nat) (a1 : Int32) (k113 : Int32 → aW → Option (Int32 × aW)) (hk113 : ∀ (b3 : Int32) (w : aW), Ev rvI M_X4_mountain 113 [some (.ref a0), none, none, some (.int b3)] [] w (k113 b3 w)) (b3 : Int32) (w : aW) : Ev rvI M_X4_mountain 113 [some (.ref a0), none, none, some (.int b3)] [] w (c_X4_mountain_113 a0 a1 k113 b3 w) := by
  unfold c_X4_mountain_113
  refine e_iload_n (pc := 113) dX4_mountain_113 rfl rfl ?_
  refine e_aload_n (pc := 114) dX4_mountain_114 rfl rfl ?_
  refine e_getI (pc := 115) dX4_mountain_115 hs_X4_172 (fun x20 => ?_)
  refine e_icmp_ge (pc := 118) (tgt := 150) dX4_mountain_118 (by decide) (fun _ => ?_) (fun _ => ?_)
  · refine e_aload_n (pc := 150) dX4_mountain_150 rfl rfl ?_
    refine e_getI (pc := 151) dX4_mountain_151 hs_X4_172 (fun x21 => ?_)
    exact e_iret (pc := 154) dX4_mountain_154 rfl rfl
  · refine e_aload_n (pc := 121) dX4_mountain_121 rfl rfl ?_
    refine e_iload_n (pc := 122) dX4_mountain_122 rfl rfl ?_
    refine e_callV (pc := 123) (av := [.int b3]) (S := []) (c0 := 3) rfl rfl ok_X4_comesTold ⟨Nat.le_of_ble_eq_true rfl, Nat.le_of_ble_eq_true rfl⟩ hv_X4_224 dX4_mountain_123 (s_X4_comesTold a0 b3 w) rfl rfl (Nat.le_of_ble_eq_true rfl) (fun x23 w22 => ?_)
    refine e_if_ne (pc := 126) (tgt := 144) dX4_mountain_126 (by decide) (fun _ => ?_) (fun _ => ?_)
    · refine e_iinc (L' := [some (.ref a0), none, none, some (.int (b3 + 1))]) (pc := 144) (v := 1) dX4_mountain_144 (by decide) rfl kc_1 rfl ?_
      refine e_goto (pc := 147) (tgt := 113) dX4_mountain_147 (by decide) ?_
      exact hk113 (b3 + 1) w22
    · refine e_aload_n (pc := 129) dX4_mountain_129 rfl rfl ?_
      refine e_callV (pc := 130) (av := []) (S := []) (c0 := 3) rfl rfl ok_X4_again ⟨Nat.le_of_ble_eq_true rfl, Nat.le_of_ble_eq_true rfl⟩ hv_X4_227 dX4_mountain_130 (s_X4_again a0 w22) rfl rfl (Nat.le_of_ble_eq_true rfl) (fun _ w24 => ?_)
      refine e_sipush (pc := 133) dX4_mountain_133 ks_m2000 ?_
      refine e_aload_n (pc := 136) dX4_mountain_136 rfl rfl ?_
      refine e_getR (pc := 137) dX4_mountain_137 hs_X4_56 (fun r25 => ?_)
      refine e_iload_n (pc := 140) dX4_mountain_140 rfl rfl ?_
      refine e_iald (pc := 141) dX4_mountain_141 (fun x26 => ?_)
      refine e_isub (pc := 142) dX4_mountain_142 ?_
      exact e_iret (pc := 143) dX4_mountain_143 rfl rfl
def c_X4_mountain_91 (a0 : Nat) (a1 : Int32) (w : aW) : Option (Int32 × aW) :=
  (gI 3 w a0 22).bind fun x17 =>
  if x17 = (0 : Int32) then
    cV 3 w a0 (bk (f_X4_think a0 w) fun _ w18 =>
    loop2 (c_X4_mountain_113 a0 a1) a_fuel (0 : Int32) w18)
  else
    (gI 3 w a0 21).bind fun x19 =>
    some (((-1000 : Int32) - x19), w)
theorem t_X4_mountain_91 (a0 : Nat) (a1 : Int32) (w : aW) : Ev rvI M_X4_mountain 91 [some (.ref a0), none, none, none] [] w (c_X4_mountain_91 a0 a1 w) := by
  unfold c_X4_mountain_91
  refine e_aload_n (pc := 91) dX4_mountain_91 rfl rfl ?_
  refine e_getI (pc := 92) dX4_mountain_92 hs_X4_158 (fun x17 => ?_)
  refine e_if_eq (pc := 95) (tgt := 107) dX4_mountain_95 (by decide) (fun _ => ?_) (fun _ => ?_)
  · refine e_aload_n (pc := 107) dX4_mountain_107 rfl rfl ?_
    refine e_callV (pc := 108) (av := []) (S := []) (c0 := 3) rfl rfl ok_X4_think ⟨Nat.le_of_ble_eq_true rfl, Nat.le_of_ble_eq_true rfl⟩ hv_X4_221 dX4_mountain_108 (s_X4_think a0 w) rfl rfl (Nat.le_of_ble_eq_true rfl) (fun _ w18 => ?_)
    refine e_iconst (pc := 111) dX4_mountain_111 kc_0 ?_
    refine e_istore_n (L' := [some (.ref a0), none, none, some (.int (0 : Int32))]) (pc := 112) dX4_mountain_112 rfl (by decide) rfl ?_
    exact e_loop2 (L := fun b3 => [some (.ref a0), none, none, some (.int b3)]) (S := fun b3 => []) (fun kf hkf => t_X4_mountain_113 a0 a1  kf hkf) _ (0 : Int32) w18
  · refine e_sipush (pc := 98) dX4_mountain_98 ks_m1000 ?_
    refine e_aload_n (pc := 101) dX4_mountain_101 rfl rfl ?_
    refine e_getI (pc := 102) dX4_mountain_102 hs_X4_152 (fun x19 => ?_)
    refine e_isub (pc := 105) dX4_mountain_105 ?_
    exact e_iret (pc := 106) dX4_mountain_106 rfl rfl
def c_X4_mountain_57 (a0 : Nat) (a1 : Int32) (k57 : aW → Option (Int32 × aW)) (w : aW) : Option (Int32 × aW) :=
  (gI 3 w a0 22).bind fun x10 =>
  if ¬ x10 = (0 : Int32) then
    c_X4_mountain_91 a0 a1 w
  else
    (gI 3 w a0 23).bind fun x11 =>
    if x11 = (0 : Int32) then
      cV 3 w a0 (bk (f_X4_readStatement a0 w) fun _ w12 =>
      k57 w12)
    else
      (gI 3 w a0 21).bind fun x13 =>
      (gR 3 w a0 17).bind fun r14 =>
      (gA w r14 a1).bind fun x15 =>
      if x15 ≤ x13 then
        c_X4_mountain_91 a0 a1 w
      else
        cV 3 w a0 (bk (f_X4_readStatement a0 w) fun _ w16 =>
        k57 w16)
theorem t_X4_mountain_57 (a0 : Nat) (a1 : Int32) (k57 : aW → Option (Int32 × aW)) (hk57 : ∀ (w : aW), Ev rvI M_X4_mountain 57 [some (.ref a0), some (.int a1), none, none] [] w (k57 w)) (w : aW) : Ev rvI M_X4_mountain 57 [some (.ref a0), some (.int a1), none, none] [] w (c_X4_mountain_57 a0 a1 k57 w) := by
  unfold c_X4_mountain_57
  refine e_aload_n (pc := 57) dX4_mountain_57 rfl rfl ?_
  refine e_getI (pc := 58) dX4_mountain_58 hs_X4_158 (fun x10 => ?_)
  refine e_if_ne (pc := 61) (tgt := 91) dX4_mountain_61 (by decide) (fun _ => ?_) (fun _ => ?_)
  · refine e_forget (L2 := [some (.ref a0), none, none, none]) (And.intro rfl trivial) ?_
    exact t_X4_mountain_91 a0 a1 w
  · refine e_aload_n (pc := 64) dX4_mountain_64 rfl rfl ?_
    refine e_getI (pc := 65) dX4_mountain_65 hs_X4_172 (fun x11 => ?_)
    refine e_if_eq (pc := 68) (tgt := 84) dX4_mountain_68 (by decide) (fun _ => ?_) (fun _ => ?_)
    · refine e_aload_n (pc := 84) dX4_mountain_84 rfl rfl ?_
      refine e_callV (pc := 85) (av := []) (S := []) (c0 := 3) rfl rfl ok_X4_readStatement ⟨Nat.le_of_ble_eq_true rfl, Nat.le_of_ble_eq_true rfl⟩ hv_X4_218 dX4_mountain_85 (s_X4_readStatement a0 w) rfl rfl (Nat.le_of_ble_eq_true rfl) (fun _ w12 => ?_)
      refine e_goto (pc := 88) (tgt := 57) dX4_mountain_88 (by decide) ?_
      exact hk57  w12
    · refine e_aload_n (pc := 71) dX4_mountain_71 rfl rfl ?_
      refine e_getI (pc := 72) dX4_mountain_72 hs_X4_152 (fun x13 => ?_)
      refine e_aload_n (pc := 75) dX4_mountain_75 rfl rfl ?_
      refine e_getR (pc := 76) dX4_mountain_76 hs_X4_49 (fun r14 => ?_)
      refine e_iload_n (pc := 79) dX4_mountain_79 rfl rfl ?_
      refine e_iald (pc := 80) dX4_mountain_80 (fun x15 => ?_)
      refine e_icmp_ge (pc := 81) (tgt := 91) dX4_mountain_81 (by decide) (fun _ => ?_) (fun _ => ?_)
      · refine e_forget (L2 := [some (.ref a0), none, none, none]) (And.intro rfl trivial) ?_
        exact t_X4_mountain_91 a0 a1 w
      · refine e_aload_n (pc := 84) dX4_mountain_84 rfl rfl ?_
        refine e_callV (pc := 85) (av := []) (S := []) (c0 := 3) rfl rfl ok_X4_readStatement ⟨Nat.le_of_ble_eq_true rfl, Nat.le_of_ble_eq_true rfl⟩ hv_X4_218 dX4_mountain_85 (s_X4_readStatement a0 w) rfl rfl (Nat.le_of_ble_eq_true rfl) (fun _ w16 => ?_)
        refine e_goto (pc := 88) (tgt := 57) dX4_mountain_88 (by decide) ?_
        exact hk57  w16
def c_X4_mountain_30 (a0 : Nat) (a1 : Int32) (s0 : Int32) (w : aW) : Option (Int32 × aW) :=
  if (0 : Int32) ≤ s0 then
    (sF 3 w a0 20 (.int a1)).bind fun w6 =>
    (sF 3 w6 a0 21 (.int (0 : Int32))).bind fun w7 =>
    (sF 3 w7 a0 22 (.int (0 : Int32))).bind fun w8 =>
    (sF 3 w8 a0 23 (.int (0 : Int32))).bind fun w9 =>
    loop1 (c_X4_mountain_57 a0 a1) a_fuel w9
  else
    some (s0, w)
theorem t_X4_mountain_30 (a0 : Nat) (a1 : Int32) (s0 : Int32) (w : aW) : Ev rvI M_X4_mountain 30 [some (.ref a0), some (.int a1), none, none] [.int s0] w (c_X4_mountain_30 a0 a1 s0 w) := by
  unfold c_X4_mountain_30
  refine e_istore_n (L' := [some (.ref a0), some (.int a1), some (.int s0), none]) (pc := 30) dX4_mountain_30 rfl (by decide) rfl ?_
  refine e_iload_n (pc := 31) dX4_mountain_31 rfl rfl ?_
  refine e_if_ge (pc := 32) (tgt := 37) dX4_mountain_32 (by decide) (fun _ => ?_) (fun _ => ?_)
  · refine e_aload_n (pc := 37) dX4_mountain_37 rfl rfl ?_
    refine e_iload_n (pc := 38) dX4_mountain_38 rfl rfl ?_
    refine e_put (pc := 39) dX4_mountain_39 hw_X4_155 (fun _ => rfl) (fun _ => rfl) (fun w6 => ?_)
    refine e_aload_n (pc := 42) dX4_mountain_42 rfl rfl ?_
    refine e_iconst (pc := 43) dX4_mountain_43 kc_0 ?_
    refine e_put (pc := 44) dX4_mountain_44 hw_X4_152 (fun _ => rfl) (fun _ => rfl) (fun w7 => ?_)
    refine e_aload_n (pc := 47) dX4_mountain_47 rfl rfl ?_
    refine e_iconst (pc := 48) dX4_mountain_48 kc_0 ?_
    refine e_put (pc := 49) dX4_mountain_49 hw_X4_158 (fun _ => a_nb (by decide)) (fun _ => a_fb (by decide)) (fun w8 => ?_)
    refine e_aload_n (pc := 52) dX4_mountain_52 rfl rfl ?_
    refine e_iconst (pc := 53) dX4_mountain_53 kc_0 ?_
    refine e_put (pc := 54) dX4_mountain_54 hw_X4_172 (fun _ => rfl) (fun _ => rfl) (fun w9 => ?_)
    refine e_forget (L2 := [some (.ref a0), some (.int a1), none, none]) (And.intro rfl (And.intro rfl trivial)) ?_
    exact e_loop1 (L := [some (.ref a0), some (.int a1), none, none]) (S := []) (fun kf hkf => t_X4_mountain_57 a0 a1  kf hkf) _  w9
  · refine e_iload_n (pc := 35) dX4_mountain_35 rfl rfl ?_
    exact e_iret (pc := 36) dX4_mountain_36 rfl rfl
def f_X4_mountain (a0 : Nat) (a1 : Int32) (w : aW) : Option (Int32 × aW) :=
  (sF 3 w a0 19 (.int (0 : Int32))).bind fun w1 =>
  cV 3 w1 a0 (bk (f_X4_wrongRow a0 a1 w1) fun x3 w2 =>
  if ¬ x3 = (0 : Int32) then
    c_X4_mountain_30 a0 a1 x3 w2
  else
    (gR 3 w2 a0 16).bind fun r4 =>
    (gA w2 r4 a1).bind fun x5 =>
    if x5 = (0 : Int32) then
      c_X4_mountain_30 a0 a1 x3 w2
    else
      c_X4_mountain_30 a0 a1 (-12 : Int32) w2)
theorem s_X4_mountain (a0 : Nat) (a1 : Int32) (w : aW) : Sp rvI M_X4_mountain [.ref a0, .int a1] w (f_X4_mountain a0 a1 w) := by
  refine e_entry [some (.ref a0), some (.int a1), none, none] (by decide +kernel) (Nat.le_of_ble_eq_true rfl) (fun _ => rfl) ?_
  unfold f_X4_mountain
  refine e_aload_n (pc := 0) dX4_mountain_0 rfl rfl ?_
  refine e_iconst (pc := 1) dX4_mountain_1 kc_0 ?_
  refine e_put (pc := 2) dX4_mountain_2 hw_X4_80 (fun _ => rfl) (fun _ => rfl) (fun w1 => ?_)
  refine e_aload_n (pc := 5) dX4_mountain_5 rfl rfl ?_
  refine e_iload_n (pc := 6) dX4_mountain_6 rfl rfl ?_
  refine e_callV (pc := 7) (av := [.int a1]) (S := []) (c0 := 3) rfl rfl ok_X4_wrongRow ⟨Nat.le_of_ble_eq_true rfl, Nat.le_of_ble_eq_true rfl⟩ hv_X4_215 dX4_mountain_7 (s_X4_wrongRow a0 a1 w1) rfl rfl (Nat.le_of_ble_eq_true rfl) (fun x3 w2 => ?_)
  refine e_istore_n (L' := [some (.ref a0), some (.int a1), some (.int x3), none]) (pc := 10) dX4_mountain_10 rfl (by decide) rfl ?_
  refine e_iload_n (pc := 11) dX4_mountain_11 rfl rfl ?_
  refine e_if_ne (pc := 12) (tgt := 29) dX4_mountain_12 (by decide) (fun _ => ?_) (fun _ => ?_)
  · refine e_iload_n (pc := 29) dX4_mountain_29 rfl rfl ?_
    refine e_forget (L2 := [some (.ref a0), some (.int a1), none, none]) (And.intro rfl (And.intro rfl trivial)) ?_
    exact t_X4_mountain_30 a0 a1 x3 w2
  · refine e_aload_n (pc := 15) dX4_mountain_15 rfl rfl ?_
    refine e_getR (pc := 16) dX4_mountain_16 hs_X4_46 (fun r4 => ?_)
    refine e_iload_n (pc := 19) dX4_mountain_19 rfl rfl ?_
    refine e_iald (pc := 20) dX4_mountain_20 (fun x5 => ?_)
    refine e_if_eq (pc := 21) (tgt := 29) dX4_mountain_21 (by decide) (fun _ => ?_) (fun _ => ?_)
    · refine e_iload_n (pc := 29) dX4_mountain_29 rfl rfl ?_
      refine e_forget (L2 := [some (.ref a0), some (.int a1), none, none]) (And.intro rfl (And.intro rfl trivial)) ?_
      exact t_X4_mountain_30 a0 a1 x3 w2
    · refine e_bipush (pc := 24) dX4_mountain_24 kb_m12 ?_
      refine e_goto (pc := 26) (tgt := 30) dX4_mountain_26 (by decide) ?_
      refine e_forget (L2 := [some (.ref a0), some (.int a1), none, none]) (And.intro rfl (And.intro rfl trivial)) ?_
      exact t_X4_mountain_30 a0 a1 (-12 : Int32) w2
