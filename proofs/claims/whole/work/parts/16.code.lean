/-! the decompiled methods: each f_ is what its bytecode does to a world; each s_ ties it to the machine. Written by program (wip/gen/gen.py). -/
def M_X3_mountains : aM := (yX3_mountains, cX3_mountains, 9, (some .int), 5, 113)
theorem ok_X3_mountains : a_okM M_X3_mountains 3 := ⟨⟨by decide +kernel, by decide +kernel⟩, by decide +kernel, a_in 661 (by decide +kernel) rfl, a_in 76 (by decide +kernel) rfl⟩
theorem dX3_mountains_0 : decode M_X3_mountains.2.1 0 = .ok (.iload_n 1, 1) := by decide +kernel
theorem dX3_mountains_1 : decode M_X3_mountains.2.1 1 = .ok (.iconst 1, 1) := by decide +kernel
theorem dX3_mountains_2 : decode M_X3_mountains.2.1 2 = .ok (.bipush 20, 2) := by decide +kernel
theorem dX3_mountains_4 : decode M_X3_mountains.2.1 4 = .ok (.invokestatic 87, 3) := by decide +kernel
theorem dX3_mountains_7 : decode M_X3_mountains.2.1 7 = .ok (.ifCond .eq 12, 3) := by decide +kernel
theorem dX3_mountains_10 : decode M_X3_mountains.2.1 10 = .ok (.iload_n 3, 1) := by decide +kernel
theorem dX3_mountains_11 : decode M_X3_mountains.2.1 11 = .ok (.iconst 0, 1) := by decide +kernel
theorem dX3_mountains_12 : decode M_X3_mountains.2.1 12 = .ok (.iconst 1, 1) := by decide +kernel
theorem dX3_mountains_13 : decode M_X3_mountains.2.1 13 = .ok (.invokestatic 87, 3) := by decide +kernel
theorem dX3_mountains_16 : decode M_X3_mountains.2.1 16 = .ok (.ifCond .ne 5, 3) := by decide +kernel
theorem dX3_mountains_19 : decode M_X3_mountains.2.1 19 = .ok (.iconst (-1), 1) := by decide +kernel
theorem dX3_mountains_20 : decode M_X3_mountains.2.1 20 = .ok (.ireturn, 1) := by decide +kernel
theorem dX3_mountains_21 : decode M_X3_mountains.2.1 21 = .ok (.iload_n 2, 1) := by decide +kernel
theorem dX3_mountains_22 : decode M_X3_mountains.2.1 22 = .ok (.istore 4, 2) := by decide +kernel
theorem dX3_mountains_24 : decode M_X3_mountains.2.1 24 = .ok (.iconst 0, 1) := by decide +kernel
theorem dX3_mountains_25 : decode M_X3_mountains.2.1 25 = .ok (.istore 5, 2) := by decide +kernel
theorem dX3_mountains_27 : decode M_X3_mountains.2.1 27 = .ok (.iconst 0, 1) := by decide +kernel
theorem dX3_mountains_28 : decode M_X3_mountains.2.1 28 = .ok (.istore 6, 2) := by decide +kernel
theorem dX3_mountains_30 : decode M_X3_mountains.2.1 30 = .ok (.iconst 0, 1) := by decide +kernel
theorem dX3_mountains_31 : decode M_X3_mountains.2.1 31 = .ok (.istore 7, 2) := by decide +kernel
theorem dX3_mountains_33 : decode M_X3_mountains.2.1 33 = .ok (.iload 7, 2) := by decide +kernel
theorem dX3_mountains_35 : decode M_X3_mountains.2.1 35 = .ok (.iload_n 1, 1) := by decide +kernel
theorem dX3_mountains_36 : decode M_X3_mountains.2.1 36 = .ok (.if_icmp .ge 114, 3) := by decide +kernel
theorem dX3_mountains_39 : decode M_X3_mountains.2.1 39 = .ok (.aload_n 0, 1) := by decide +kernel
theorem dX3_mountains_40 : decode M_X3_mountains.2.1 40 = .ok (.invokevirtual 56, 3) := by decide +kernel
theorem dX3_mountains_43 : decode M_X3_mountains.2.1 43 = .ok (.iconst 0, 1) := by decide +kernel
theorem dX3_mountains_44 : decode M_X3_mountains.2.1 44 = .ok (.istore 8, 2) := by decide +kernel
theorem dX3_mountains_46 : decode M_X3_mountains.2.1 46 = .ok (.iload 8, 2) := by decide +kernel
theorem dX3_mountains_48 : decode M_X3_mountains.2.1 48 = .ok (.bipush 9, 2) := by decide +kernel
theorem dX3_mountains_50 : decode M_X3_mountains.2.1 50 = .ok (.if_icmp .ge 50, 3) := by decide +kernel
theorem dX3_mountains_53 : decode M_X3_mountains.2.1 53 = .ok (.aload_n 0, 1) := by decide +kernel
theorem dX3_mountains_54 : decode M_X3_mountains.2.1 54 = .ok (.getfield 10, 3) := by decide +kernel
theorem dX3_mountains_57 : decode M_X3_mountains.2.1 57 = .ok (.iload 8, 2) := by decide +kernel
theorem dX3_mountains_59 : decode M_X3_mountains.2.1 59 = .ok (.invokevirtual 160, 3) := by decide +kernel
theorem dX3_mountains_62 : decode M_X3_mountains.2.1 62 = .ok (.ifCond .eq 32, 3) := by decide +kernel
theorem dX3_mountains_65 : decode M_X3_mountains.2.1 65 = .ok (.iload 4, 2) := by decide +kernel
theorem dX3_mountains_67 : decode M_X3_mountains.2.1 67 = .ok (.ldc_w 265, 3) := by decide +kernel
theorem dX3_mountains_70 : decode M_X3_mountains.2.1 70 = .ok (.imul, 1) := by decide +kernel
theorem dX3_mountains_71 : decode M_X3_mountains.2.1 71 = .ok (.sipush 12345, 3) := by decide +kernel
theorem dX3_mountains_74 : decode M_X3_mountains.2.1 74 = .ok (.iadd, 1) := by decide +kernel
theorem dX3_mountains_75 : decode M_X3_mountains.2.1 75 = .ok (.istore 4, 2) := by decide +kernel
theorem dX3_mountains_77 : decode M_X3_mountains.2.1 77 = .ok (.aload_n 0, 1) := by decide +kernel
theorem dX3_mountains_78 : decode M_X3_mountains.2.1 78 = .ok (.getfield 16, 3) := by decide +kernel
theorem dX3_mountains_81 : decode M_X3_mountains.2.1 81 = .ok (.getfield 236, 3) := by decide +kernel
theorem dX3_mountains_84 : decode M_X3_mountains.2.1 84 = .ok (.iload 8, 2) := by decide +kernel
theorem dX3_mountains_86 : decode M_X3_mountains.2.1 86 = .ok (.iload 4, 2) := by decide +kernel
theorem dX3_mountains_88 : decode M_X3_mountains.2.1 88 = .ok (.bipush 16, 2) := by decide +kernel
theorem dX3_mountains_90 : decode M_X3_mountains.2.1 90 = .ok (.invokestatic 266, 3) := by decide +kernel
theorem dX3_mountains_93 : decode M_X3_mountains.2.1 93 = .ok (.iastore, 1) := by decide +kernel
theorem dX3_mountains_94 : decode M_X3_mountains.2.1 94 = .ok (.iinc 8 1, 3) := by decide +kernel
theorem dX3_mountains_97 : decode M_X3_mountains.2.1 97 = .ok (.goto (-51), 3) := by decide +kernel
theorem dX3_mountains_100 : decode M_X3_mountains.2.1 100 = .ok (.aload_n 0, 1) := by decide +kernel
theorem dX3_mountains_101 : decode M_X3_mountains.2.1 101 = .ok (.getfield 16, 3) := by decide +kernel
theorem dX3_mountains_104 : decode M_X3_mountains.2.1 104 = .ok (.bipush 12, 2) := by decide +kernel
theorem dX3_mountains_106 : decode M_X3_mountains.2.1 106 = .ok (.invokevirtual 138, 3) := by decide +kernel
theorem dX3_mountains_109 : decode M_X3_mountains.2.1 109 = .ok (.iload 5, 2) := by decide +kernel
theorem dX3_mountains_111 : decode M_X3_mountains.2.1 111 = .ok (.aload_n 0, 1) := by decide +kernel
theorem dX3_mountains_112 : decode M_X3_mountains.2.1 112 = .ok (.getfield 16, 3) := by decide +kernel
theorem dX3_mountains_115 : decode M_X3_mountains.2.1 115 = .ok (.invokevirtual 169, 3) := by decide +kernel
theorem dX3_mountains_118 : decode M_X3_mountains.2.1 118 = .ok (.invokestatic 185, 3) := by decide +kernel
theorem dX3_mountains_121 : decode M_X3_mountains.2.1 121 = .ok (.iadd, 1) := by decide +kernel
theorem dX3_mountains_122 : decode M_X3_mountains.2.1 122 = .ok (.istore 5, 2) := by decide +kernel
theorem dX3_mountains_124 : decode M_X3_mountains.2.1 124 = .ok (.iload 6, 2) := by decide +kernel
theorem dX3_mountains_126 : decode M_X3_mountains.2.1 126 = .ok (.aload_n 0, 1) := by decide +kernel
theorem dX3_mountains_127 : decode M_X3_mountains.2.1 127 = .ok (.getfield 16, 3) := by decide +kernel
theorem dX3_mountains_130 : decode M_X3_mountains.2.1 130 = .ok (.invokevirtual 269, 3) := by decide +kernel
theorem dX3_mountains_133 : decode M_X3_mountains.2.1 133 = .ok (.aload_n 0, 1) := by decide +kernel
theorem dX3_mountains_134 : decode M_X3_mountains.2.1 134 = .ok (.getfield 10, 3) := by decide +kernel
theorem dX3_mountains_137 : decode M_X3_mountains.2.1 137 = .ok (.invokevirtual 269, 3) := by decide +kernel
theorem dX3_mountains_140 : decode M_X3_mountains.2.1 140 = .ok (.isub, 1) := by decide +kernel
theorem dX3_mountains_141 : decode M_X3_mountains.2.1 141 = .ok (.iadd, 1) := by decide +kernel
theorem dX3_mountains_142 : decode M_X3_mountains.2.1 142 = .ok (.istore 6, 2) := by decide +kernel
theorem dX3_mountains_144 : decode M_X3_mountains.2.1 144 = .ok (.iinc 7 1, 3) := by decide +kernel
theorem dX3_mountains_147 : decode M_X3_mountains.2.1 147 = .ok (.goto (-114), 3) := by decide +kernel
theorem dX3_mountains_150 : decode M_X3_mountains.2.1 150 = .ok (.iload_n 3, 1) := by decide +kernel
theorem dX3_mountains_151 : decode M_X3_mountains.2.1 151 = .ok (.ifCond .ne 8, 3) := by decide +kernel
theorem dX3_mountains_154 : decode M_X3_mountains.2.1 154 = .ok (.iload 5, 2) := by decide +kernel
theorem dX3_mountains_156 : decode M_X3_mountains.2.1 156 = .ok (.goto 5, 3) := by decide +kernel
theorem dX3_mountains_159 : decode M_X3_mountains.2.1 159 = .ok (.iload 6, 2) := by decide +kernel
theorem dX3_mountains_161 : decode M_X3_mountains.2.1 161 = .ok (.ireturn, 1) := by decide +kernel
theorem hv_X3_269 : a_okV RX3 M_X0_griefOfAll 269 := ⟨a_in 668 (by decide +kernel) rfl, a_in 669 (by decide +kernel) rfl, a_in 670 (by decide +kernel) rfl⟩
theorem ht_X3_266 : a_okS RX3 M_X3_drawn 266 := ⟨a_in 663 (by decide +kernel) rfl, a_in 664 (by decide +kernel) rfl⟩
def c_X3_mountains_46 (a0 : Nat) (a1 : Int32) (a2 : Int32) (a3 : Int32) (k33 : Int32 → Int32 → Int32 → Int32 → aW → Option (Int32 × aW)) (k46 : Int32 → Int32 → Int32 → Int32 → Int32 → aW → Option (Int32 × aW)) (b4 : Int32) (b5 : Int32) (b6 : Int32) (b7 : Int32) (b8 : Int32) (w : aW) : Option (Int32 × aW) :=
  if (9 : Int32) ≤ b8 then
    (gR 2 w a0 1).bind fun r6 =>
    cV 0 w r6 (bk (f_X0_passDays r6 (12 : Int32) w) fun _ w7 =>
    (gR 2 w7 a0 1).bind fun r8 =>
    cV 0 w7 r8 (bk (f_X0_calledByAnybody r8 w7) fun x10 w9 =>
    bk (f_J6_bitCount_0f7a4 x10 w9) fun x12 w11 =>
    (gR 2 w11 a0 1).bind fun r13 =>
    cV 0 w11 r13 (bk (f_X0_griefOfAll r13 w11) fun x15 w14 =>
    (gR 2 w14 a0 0).bind fun r16 =>
    cV 0 w14 r16 (bk (f_X0_griefOfAll r16 w14) fun x18 w17 =>
    k33 b4 (b5 + x12) (b6 + (x15 - x18)) (b7 + 1) w17))))
  else
    (gR 2 w a0 0).bind fun r19 =>
    cV 0 w r19 (bk (f_X0_isAlive r19 b8 w) fun x21 w20 =>
    if x21 = (0 : Int32) then
      k46 b4 b5 b6 b7 (b8 + 1) w20
    else
      (gR 2 w20 a0 1).bind fun r22 =>
      (gR 0 w20 r22 6).bind fun r23 =>
      bk (f_X3_drawn ((b4 * (1103515245 : Int32)) + (12345 : Int32)) (16 : Int32) w20) fun x25 w24 =>
      (sA w24 r23 b8 x25).bind fun w26 =>
      k46 ((b4 * (1103515245 : Int32)) + (12345 : Int32)) b5 b6 b7 (b8 + 1) w26)
theorem t_X3_mountains_46 (a0 : Nat) (a1 : Int32) (a2 : Int32) (a3 : Int32) (k33 : Int32 → Int32 → Int32 → Int32 → aW → Option (Int32 × aW)) (hk33 : ∀ (b4 : Int32) (b5 : Int32) (b6 : Int32) (b7 : Int32) (w : aW), Ev rvI M_X3_mountains 33 [some (.ref a0), some (.int a1), none, some (.int a3), some (.int b4), some (.int b5), some (.int b6), some (.int b7), none] [] w (k33 b4 b5 b6 b7 w)) (k46 : Int32 → Int32 → Int32 → Int32 → Int32 → aW → Option (Int32 × aW)) (hk46 : ∀ (b4 : Int32) (b5 : Int32) (b6 : Int32) (b7 : Int32) (b8 : Int32) (w : aW), Ev rvI M_X3_mountains 46 [some (.ref a0), some (.int a1), none, some (.int a3), some (.int b4), some (.int b5), some (.int b6), some (.int b7), some (.int b8)] [] w (k46 b4 b5 b6 b7 b8 w)) (b4 : Int32) (b5 : Int32) (b6 : Int32) (b7 : Int32) (b8 : Int32) (w : aW) : Ev rvI M_X3_mountains 46 [some (.ref a0), some (.int a1), none, some (.int a3), some (.int b4), some (.int b5), some (.int b6), some (.int b7), some (.int b8)] [] w (c_X3_mountains_46 a0 a1 a2 a3 k33 k46 b4 b5 b6 b7 b8 w) := by
  unfold c_X3_mountains_46
  refine e_iload (pc := 46) dX3_mountains_46 rfl ?_
  refine e_bipush (pc := 48) dX3_mountains_48 kb_9 ?_
  refine e_icmp_ge (pc := 50) (tgt := 100) dX3_mountains_50 (by decide) (fun _ => ?_) (fun _ => ?_)
  · refine e_aload_n (pc := 100) dX3_mountains_100 rfl rfl ?_
    refine e_getR (pc := 101) dX3_mountains_101 hs_X3_16 (fun r6 => ?_)
    refine e_bipush (pc := 104) dX3_mountains_104 kb_12 ?_
    refine e_callV (pc := 106) (av := [.int (12 : Int32)]) (S := []) (c0 := 0) rfl rfl ok_X0_passDays ⟨Nat.le_of_ble_eq_true rfl, Nat.le_of_ble_eq_true rfl⟩ hv_X3_138 dX3_mountains_106 (s_X0_passDays r6 (12 : Int32) w) rfl rfl (Nat.le_of_ble_eq_true rfl) (fun _ w7 => ?_)
    refine e_iload (pc := 109) dX3_mountains_109 rfl ?_
    refine e_aload_n (pc := 111) dX3_mountains_111 rfl rfl ?_
    refine e_getR (pc := 112) dX3_mountains_112 hs_X3_16 (fun r8 => ?_)
    refine e_callV (pc := 115) (av := []) (S := [.int b5]) (c0 := 0) rfl rfl ok_X0_calledByAnybody ⟨Nat.le_of_ble_eq_true rfl, Nat.le_of_ble_eq_true rfl⟩ hv_X3_169 dX3_mountains_115 (s_X0_calledByAnybody r8 w7) rfl rfl (Nat.le_of_ble_eq_true rfl) (fun x10 w9 => ?_)
    refine e_callS (pc := 118) (av := [.int x10]) (S := [.int b5]) ok_J6_bitCount_0f7a4 ⟨Nat.le_of_ble_eq_true rfl, Nat.le_of_ble_eq_true rfl⟩ ht_X3_185 dX3_mountains_118 (s_J6_bitCount_0f7a4 x10 w9) rfl rfl (Nat.le_of_ble_eq_true rfl) (fun x12 w11 => ?_)
    refine e_iadd (pc := 121) dX3_mountains_121 ?_
    refine e_istore (L' := [some (.ref a0), some (.int a1), none, some (.int a3), some (.int b4), some (.int (b5 + x12)), some (.int b6), some (.int b7), some (.int b8)]) (pc := 122) dX3_mountains_122 (by decide) rfl ?_
    refine e_iload (pc := 124) dX3_mountains_124 rfl ?_
    refine e_aload_n (pc := 126) dX3_mountains_126 rfl rfl ?_
    refine e_getR (pc := 127) dX3_mountains_127 hs_X3_16 (fun r13 => ?_)
    refine e_callV (pc := 130) (av := []) (S := [.int b6]) (c0 := 0) rfl rfl ok_X0_griefOfAll ⟨Nat.le_of_ble_eq_true rfl, Nat.le_of_ble_eq_true rfl⟩ hv_X3_269 dX3_mountains_130 (s_X0_griefOfAll r13 w11) rfl rfl (Nat.le_of_ble_eq_true rfl) (fun x15 w14 => ?_)
    refine e_aload_n (pc := 133) dX3_mountains_133 rfl rfl ?_
    refine e_getR (pc := 134) dX3_mountains_134 hs_X3_10 (fun r16 => ?_)
    refine e_callV (pc := 137) (av := []) (S := [.int x15, .int b6]) (c0 := 0) rfl rfl ok_X0_griefOfAll ⟨Nat.le_of_ble_eq_true rfl, Nat.le_of_ble_eq_true rfl⟩ hv_X3_269 dX3_mountains_137 (s_X0_griefOfAll r16 w14) rfl rfl (Nat.le_of_ble_eq_true rfl) (fun x18 w17 => ?_)
    refine e_isub (pc := 140) dX3_mountains_140 ?_
    refine e_iadd (pc := 141) dX3_mountains_141 ?_
    refine e_istore (L' := [some (.ref a0), some (.int a1), none, some (.int a3), some (.int b4), some (.int (b5 + x12)), some (.int (b6 + (x15 - x18))), some (.int b7), some (.int b8)]) (pc := 142) dX3_mountains_142 (by decide) rfl ?_
    refine e_iinc (L' := [some (.ref a0), some (.int a1), none, some (.int a3), some (.int b4), some (.int (b5 + x12)), some (.int (b6 + (x15 - x18))), some (.int (b7 + 1)), some (.int b8)]) (pc := 144) (v := 1) dX3_mountains_144 (by decide) rfl kc_1 rfl ?_
    refine e_goto (pc := 147) (tgt := 33) dX3_mountains_147 (by decide) ?_
    refine e_forget (L2 := [some (.ref a0), some (.int a1), none, some (.int a3), some (.int b4), some (.int (b5 + x12)), some (.int (b6 + (x15 - x18))), some (.int (b7 + 1)), none]) (And.intro rfl (And.intro rfl (And.intro rfl (And.intro rfl (And.intro rfl (And.intro rfl (And.intro rfl trivial))))))) ?_
    exact hk33 b4 (b5 + x12) (b6 + (x15 - x18)) (b7 + 1) w17
  · refine e_aload_n (pc := 53) dX3_mountains_53 rfl rfl ?_
    refine e_getR (pc := 54) dX3_mountains_54 hs_X3_10 (fun r19 => ?_)
    refine e_iload (pc := 57) dX3_mountains_57 rfl ?_
    refine e_callV (pc := 59) (av := [.int b8]) (S := []) (c0 := 0) rfl rfl ok_X0_isAlive ⟨Nat.le_of_ble_eq_true rfl, Nat.le_of_ble_eq_true rfl⟩ hv_X3_160 dX3_mountains_59 (s_X0_isAlive r19 b8 w) rfl rfl (Nat.le_of_ble_eq_true rfl) (fun x21 w20 => ?_)
    refine e_if_eq (pc := 62) (tgt := 94) dX3_mountains_62 (by decide) (fun _ => ?_) (fun _ => ?_)
    · refine e_iinc (L' := [some (.ref a0), some (.int a1), none, some (.int a3), some (.int b4), some (.int b5), some (.int b6), some (.int b7), some (.int (b8 + 1))]) (pc := 94) (v := 1) dX3_mountains_94 (by decide) rfl kc_1 rfl ?_
      refine e_goto (pc := 97) (tgt := 46) dX3_mountains_97 (by decide) ?_
      exact hk46 b4 b5 b6 b7 (b8 + 1) w20
    · refine e_iload (pc := 65) dX3_mountains_65 rfl ?_
      refine e_ldcw (pc := 67) (v := 1103515245) dX3_mountains_67 (a_in 662 (by decide +kernel) rfl) ?_
      refine e_imul (pc := 70) dX3_mountains_70 ?_
      refine e_sipush (pc := 71) dX3_mountains_71 ks_12345 ?_
      refine e_iadd (pc := 74) dX3_mountains_74 ?_
      refine e_istore (L' := [some (.ref a0), some (.int a1), none, some (.int a3), some (.int ((b4 * (1103515245 : Int32)) + (12345 : Int32))), some (.int b5), some (.int b6), some (.int b7), some (.int b8)]) (pc := 75) dX3_mountains_75 (by decide) rfl ?_
      refine e_aload_n (pc := 77) dX3_mountains_77 rfl rfl ?_
      refine e_getR (pc := 78) dX3_mountains_78 hs_X3_16 (fun r22 => ?_)
      refine e_getR (pc := 81) dX3_mountains_81 hs_X3_236 (fun r23 => ?_)
      refine e_iload (pc := 84) dX3_mountains_84 rfl ?_
      refine e_iload (pc := 86) dX3_mountains_86 rfl ?_
      refine e_bipush (pc := 88) dX3_mountains_88 kb_16 ?_
      refine e_callS (pc := 90) (av := [.int ((b4 * (1103515245 : Int32)) + (12345 : Int32)), .int (16 : Int32)]) (S := [.int b8, .ref r23]) ok_X3_drawn ⟨Nat.le_of_ble_eq_true rfl, Nat.le_of_ble_eq_true rfl⟩ ht_X3_266 dX3_mountains_90 (s_X3_drawn ((b4 * (1103515245 : Int32)) + (12345 : Int32)) (16 : Int32) w20) rfl rfl (Nat.le_of_ble_eq_true rfl) (fun x25 w24 => ?_)
      refine e_iast (pc := 93) dX3_mountains_93 (fun w26 => ?_)
      refine e_iinc (L' := [some (.ref a0), some (.int a1), none, some (.int a3), some (.int ((b4 * (1103515245 : Int32)) + (12345 : Int32))), some (.int b5), some (.int b6), some (.int b7), some (.int (b8 + 1))]) (pc := 94) (v := 1) dX3_mountains_94 (by decide) rfl kc_1 rfl ?_
      refine e_goto (pc := 97) (tgt := 46) dX3_mountains_97 (by decide) ?_
      exact hk46 ((b4 * (1103515245 : Int32)) + (12345 : Int32)) b5 b6 b7 (b8 + 1) w26
def c_X3_mountains_33 (a0 : Nat) (a1 : Int32) (a2 : Int32) (a3 : Int32) (k33 : Int32 → Int32 → Int32 → Int32 → aW → Option (Int32 × aW)) (b4 : Int32) (b5 : Int32) (b6 : Int32) (b7 : Int32) (w : aW) : Option (Int32 × aW) :=
  if a1 ≤ b7 then
    if ¬ a3 = (0 : Int32) then
      some (b6, w)
    else
      some (b5, w)
  else
    cV 2 w a0 (bk (f_X3_think a0 w) fun _ w5 =>
    loop6 (c_X3_mountains_46 a0 a1 a2 a3 k33) a_fuel b4 b5 b6 b7 (0 : Int32) w5)
theorem t_X3_mountains_33 (a0 : Nat) (a1 : Int32) (a2 : Int32) (a3 : Int32) (k33 : Int32 → Int32 → Int32 → Int32 → aW → Option (Int32 × aW)) (hk33 : ∀ (b4 : Int32) (b5 : Int32) (b6 : Int32) (b7 : Int32) (w : aW), Ev rvI M_X3_mountains 33 [some (.ref a0), some (.int a1), none, some (.int a3), some (.int b4), some (.int b5), some (.int b6), some (.int b7), none] [] w (k33 b4 b5 b6 b7 w)) (b4 : Int32) (b5 : Int32) (b6 : Int32) (b7 : Int32) (w : aW) : Ev rvI M_X3_mountains 33 [some (.ref a0), some (.int a1), none, some (.int a3), some (.int b4), some (.int b5), some (.int b6), some (.int b7), none] [] w (c_X3_mountains_33 a0 a1 a2 a3 k33 b4 b5 b6 b7 w) := by
  unfold c_X3_mountains_33
  refine e_iload (pc := 33) dX3_mountains_33 rfl ?_
  refine e_iload_n (pc := 35) dX3_mountains_35 rfl rfl ?_
  refine e_icmp_ge (pc := 36) (tgt := 150) dX3_mountains_36 (by decide) (fun _ => ?_) (fun _ => ?_)
  · refine e_iload_n (pc := 150) dX3_mountains_150 rfl rfl ?_
    refine e_if_ne (pc := 151) (tgt := 159) dX3_mountains_151 (by decide) (fun _ => ?_) (fun _ => ?_)
    · refine e_iload (pc := 159) dX3_mountains_159 rfl ?_
      exact e_iret (pc := 161) dX3_mountains_161 rfl rfl
    · refine e_iload (pc := 154) dX3_mountains_154 rfl ?_
      refine e_goto (pc := 156) (tgt := 161) dX3_mountains_156 (by decide) ?_
      exact e_iret (pc := 161) dX3_mountains_161 rfl rfl
  · refine e_aload_n (pc := 39) dX3_mountains_39 rfl rfl ?_
    refine e_callV (pc := 40) (av := []) (S := []) (c0 := 2) rfl rfl ok_X3_think ⟨Nat.le_of_ble_eq_true rfl, Nat.le_of_ble_eq_true rfl⟩ hv_X3_56 dX3_mountains_40 (s_X3_think a0 w) rfl rfl (Nat.le_of_ble_eq_true rfl) (fun _ w5 => ?_)
    refine e_iconst (pc := 43) dX3_mountains_43 kc_0 ?_
    refine e_istore (L' := [some (.ref a0), some (.int a1), none, some (.int a3), some (.int b4), some (.int b5), some (.int b6), some (.int b7), some (.int (0 : Int32))]) (pc := 44) dX3_mountains_44 (by decide) rfl ?_
    exact e_loop6 (L := fun b4 b5 b6 b7 b8 => [some (.ref a0), some (.int a1), none, some (.int a3), some (.int b4), some (.int b5), some (.int b6), some (.int b7), some (.int b8)]) (S := fun b4 b5 b6 b7 b8 => []) (fun kf hkf => t_X3_mountains_46 a0 a1 a2 a3 k33 hk33 kf hkf) _ b4 b5 b6 b7 (0 : Int32) w5
def f_X3_mountains (a0 : Nat) (a1 : Int32) (a2 : Int32) (a3 : Int32) (w : aW) : Option (Int32 × aW) :=
  bk (f_X3_within a1 (1 : Int32) (20 : Int32) w) fun x2 w1 =>
  if x2 = (0 : Int32) then
    some ((-1 : Int32), w1)
  else
    bk (f_X3_within a3 (0 : Int32) (1 : Int32) w1) fun x4 w3 =>
    if ¬ x4 = (0 : Int32) then
      loop5 (c_X3_mountains_33 a0 a1 a2 a3) a_fuel a2 (0 : Int32) (0 : Int32) (0 : Int32) w3
    else
      some ((-1 : Int32), w3)
theorem s_X3_mountains (a0 : Nat) (a1 : Int32) (a2 : Int32) (a3 : Int32) (w : aW) : Sp rvI M_X3_mountains [.ref a0, .int a1, .int a2, .int a3] w (f_X3_mountains a0 a1 a2 a3 w) := by
  refine e_entry [some (.ref a0), some (.int a1), some (.int a2), some (.int a3), none, none, none, none, none] (by decide +kernel) (Nat.le_of_ble_eq_true rfl) (fun _ => rfl) ?_
  unfold f_X3_mountains
  refine e_iload_n (pc := 0) dX3_mountains_0 rfl rfl ?_
  refine e_iconst (pc := 1) dX3_mountains_1 kc_1 ?_
  refine e_bipush (pc := 2) dX3_mountains_2 kb_20 ?_
  refine e_callS (pc := 4) (av := [.int a1, .int (1 : Int32), .int (20 : Int32)]) (S := []) ok_X3_within ⟨Nat.le_of_ble_eq_true rfl, Nat.le_of_ble_eq_true rfl⟩ ht_X3_87 dX3_mountains_4 (s_X3_within a1 (1 : Int32) (20 : Int32) w) rfl rfl (Nat.le_of_ble_eq_true rfl) (fun x2 w1 => ?_)
  refine e_if_eq (pc := 7) (tgt := 19) dX3_mountains_7 (by decide) (fun _ => ?_) (fun _ => ?_)
  · refine e_iconst (pc := 19) dX3_mountains_19 kc_m1 ?_
    exact e_iret (pc := 20) dX3_mountains_20 rfl rfl
  · refine e_iload_n (pc := 10) dX3_mountains_10 rfl rfl ?_
    refine e_iconst (pc := 11) dX3_mountains_11 kc_0 ?_
    refine e_iconst (pc := 12) dX3_mountains_12 kc_1 ?_
    refine e_callS (pc := 13) (av := [.int a3, .int (0 : Int32), .int (1 : Int32)]) (S := []) ok_X3_within ⟨Nat.le_of_ble_eq_true rfl, Nat.le_of_ble_eq_true rfl⟩ ht_X3_87 dX3_mountains_13 (s_X3_within a3 (0 : Int32) (1 : Int32) w1) rfl rfl (Nat.le_of_ble_eq_true rfl) (fun x4 w3 => ?_)
    refine e_if_ne (pc := 16) (tgt := 21) dX3_mountains_16 (by decide) (fun _ => ?_) (fun _ => ?_)
    · refine e_iload_n (pc := 21) dX3_mountains_21 rfl rfl ?_
      refine e_istore (L' := [some (.ref a0), some (.int a1), some (.int a2), some (.int a3), some (.int a2), none, none, none, none]) (pc := 22) dX3_mountains_22 (by decide) rfl ?_
      refine e_iconst (pc := 24) dX3_mountains_24 kc_0 ?_
      refine e_istore (L' := [some (.ref a0), some (.int a1), some (.int a2), some (.int a3), some (.int a2), some (.int (0 : Int32)), none, none, none]) (pc := 25) dX3_mountains_25 (by decide) rfl ?_
      refine e_iconst (pc := 27) dX3_mountains_27 kc_0 ?_
      refine e_istore (L' := [some (.ref a0), some (.int a1), some (.int a2), some (.int a3), some (.int a2), some (.int (0 : Int32)), some (.int (0 : Int32)), none, none]) (pc := 28) dX3_mountains_28 (by decide) rfl ?_
      refine e_iconst (pc := 30) dX3_mountains_30 kc_0 ?_
      refine e_istore (L' := [some (.ref a0), some (.int a1), some (.int a2), some (.int a3), some (.int a2), some (.int (0 : Int32)), some (.int (0 : Int32)), some (.int (0 : Int32)), none]) (pc := 31) dX3_mountains_31 (by decide) rfl ?_
      refine e_forget (L2 := [some (.ref a0), some (.int a1), none, some (.int a3), some (.int a2), some (.int (0 : Int32)), some (.int (0 : Int32)), some (.int (0 : Int32)), none]) (And.intro rfl (And.intro rfl (And.intro rfl (And.intro rfl (And.intro rfl (And.intro rfl (And.intro rfl trivial))))))) ?_
      exact e_loop5 (L := fun b4 b5 b6 b7 => [some (.ref a0), some (.int a1), none, some (.int a3), some (.int b4), some (.int b5), some (.int b6), some (.int b7), none]) (S := fun b4 b5 b6 b7 => []) (fun kf hkf => t_X3_mountains_33 a0 a1 a2 a3  kf hkf) _ a2 (0 : Int32) (0 : Int32) (0 : Int32) w3
    · refine e_iconst (pc := 19) dX3_mountains_19 kc_m1 ?_
      exact e_iret (pc := 20) dX3_mountains_20 rfl rfl
def M_X3_image : aM := (yX3_image, cX3_image, 1, (some .int), 2, 81)
theorem ok_X3_image : a_okM M_X3_image 0 := ⟨⟨by decide +kernel, by decide +kernel⟩, by decide +kernel, a_in 675 (by decide +kernel) rfl, a_in 76 (by decide +kernel) rfl⟩
theorem dX3_image_0 : decode M_X3_image.2.1 0 = .ok (.aload_n 0, 1) := by decide +kernel
theorem dX3_image_1 : decode M_X3_image.2.1 1 = .ok (.getfield 19, 3) := by decide +kernel
theorem dX3_image_4 : decode M_X3_image.2.1 4 = .ok (.aload_n 0, 1) := by decide +kernel
theorem dX3_image_5 : decode M_X3_image.2.1 5 = .ok (.getfield 10, 3) := by decide +kernel
theorem dX3_image_8 : decode M_X3_image.2.1 8 = .ok (.invokevirtual 79, 3) := by decide +kernel
theorem dX3_image_11 : decode M_X3_image.2.1 11 = .ok (.aload_n 0, 1) := by decide +kernel
theorem dX3_image_12 : decode M_X3_image.2.1 12 = .ok (.iconst 1, 1) := by decide +kernel
theorem dX3_image_13 : decode M_X3_image.2.1 13 = .ok (.putfield 22, 3) := by decide +kernel
theorem dX3_image_16 : decode M_X3_image.2.1 16 = .ok (.aload_n 0, 1) := by decide +kernel
theorem dX3_image_17 : decode M_X3_image.2.1 17 = .ok (.getfield 10, 3) := by decide +kernel
theorem dX3_image_20 : decode M_X3_image.2.1 20 = .ok (.getfield 272, 3) := by decide +kernel
theorem dX3_image_23 : decode M_X3_image.2.1 23 = .ok (.ireturn, 1) := by decide +kernel
theorem hs_X3_19 : a_fs RX3 19 2 2 := ⟨RX3, TX3, 7, rfl, tin_X3, by decide, a_in 192 (by decide +kernel) rfl⟩
theorem hw_X3_22 : a_fw RX3 22 2 3 (.boolean) := ⟨RX3, TX3, 7, tyX3, rfl, tin_X3, by decide, a_in 193 (by decide +kernel) rfl, tyX3_ok, nmX3, rfl, by decide +kernel⟩
theorem hs_X3_272 : a_fs RX3 272 0 0 := ⟨RX0, TX0, 13, rfl, tin_X0, by decide, a_in 106 (by decide +kernel) rfl⟩
def f_X3_image (a0 : Nat) (w : aW) : Option (Int32 × aW) :=
  (gR 2 w a0 2).bind fun r1 =>
  (gR 2 w a0 0).bind fun r2 =>
  cV 0 w r1 (bk (f_X0_becomeAs r1 r2 w) fun _ w3 =>
  (sF 2 w3 a0 3 (.int (1 : Int32))).bind fun w4 =>
  (gR 2 w4 a0 0).bind fun r5 =>
  (gI 0 w4 r5 0).bind fun x6 =>
  some (x6, w4))
theorem s_X3_image (a0 : Nat) (w : aW) : Sp rvI M_X3_image [.ref a0] w (f_X3_image a0 w) := by
  refine e_entry [some (.ref a0)] (by decide +kernel) (Nat.le_of_ble_eq_true rfl) (fun _ => rfl) ?_
  unfold f_X3_image
  refine e_aload_n (pc := 0) dX3_image_0 rfl rfl ?_
  refine e_getR (pc := 1) dX3_image_1 hs_X3_19 (fun r1 => ?_)
  refine e_aload_n (pc := 4) dX3_image_4 rfl rfl ?_
  refine e_getR (pc := 5) dX3_image_5 hs_X3_10 (fun r2 => ?_)
  refine e_callV (pc := 8) (av := [.ref r2]) (S := []) (c0 := 0) rfl rfl ok_X0_becomeAs ⟨Nat.le_of_ble_eq_true rfl, Nat.le_of_ble_eq_true rfl⟩ hv_X3_79 dX3_image_8 (s_X0_becomeAs r1 r2 w) rfl rfl (Nat.le_of_ble_eq_true rfl) (fun _ w3 => ?_)
  refine e_aload_n (pc := 11) dX3_image_11 rfl rfl ?_
  refine e_iconst (pc := 12) dX3_image_12 kc_1 ?_
  refine e_put (pc := 13) dX3_image_13 hw_X3_22 (fun _ => a_nb (by decide)) (fun _ => a_fb (by decide)) (fun w4 => ?_)
  refine e_aload_n (pc := 16) dX3_image_16 rfl rfl ?_
  refine e_getR (pc := 17) dX3_image_17 hs_X3_10 (fun r5 => ?_)
  refine e_getI (pc := 20) dX3_image_20 hs_X3_272 (fun x6 => ?_)
  exact e_iret (pc := 23) dX3_image_23 rfl rfl
def M_X3_restore : aM := (yX3_restore, cX3_restore, 1, (some .int), 2, 81)
theorem ok_X3_restore : a_okM M_X3_restore 0 := ⟨⟨by decide +kernel, by decide +kernel⟩, by decide +kernel, a_in 679 (by decide +kernel) rfl, a_in 76 (by decide +kernel) rfl⟩
theorem dX3_restore_0 : decode M_X3_restore.2.1 0 = .ok (.aload_n 0, 1) := by decide +kernel
theorem dX3_restore_1 : decode M_X3_restore.2.1 1 = .ok (.getfield 22, 3) := by decide +kernel
theorem dX3_restore_4 : decode M_X3_restore.2.1 4 = .ok (.ifCond .ne 6, 3) := by decide +kernel
theorem dX3_restore_7 : decode M_X3_restore.2.1 7 = .ok (.bipush (-3), 2) := by decide +kernel
theorem dX3_restore_9 : decode M_X3_restore.2.1 9 = .ok (.ireturn, 1) := by decide +kernel
theorem dX3_restore_10 : decode M_X3_restore.2.1 10 = .ok (.aload_n 0, 1) := by decide +kernel
theorem dX3_restore_11 : decode M_X3_restore.2.1 11 = .ok (.getfield 10, 3) := by decide +kernel
theorem dX3_restore_14 : decode M_X3_restore.2.1 14 = .ok (.aload_n 0, 1) := by decide +kernel
theorem dX3_restore_15 : decode M_X3_restore.2.1 15 = .ok (.getfield 19, 3) := by decide +kernel
theorem dX3_restore_18 : decode M_X3_restore.2.1 18 = .ok (.invokevirtual 79, 3) := by decide +kernel
theorem dX3_restore_21 : decode M_X3_restore.2.1 21 = .ok (.aload_n 0, 1) := by decide +kernel
theorem dX3_restore_22 : decode M_X3_restore.2.1 22 = .ok (.getfield 10, 3) := by decide +kernel
theorem dX3_restore_25 : decode M_X3_restore.2.1 25 = .ok (.getfield 272, 3) := by decide +kernel
theorem dX3_restore_28 : decode M_X3_restore.2.1 28 = .ok (.ireturn, 1) := by decide +kernel
theorem hs_X3_22 : a_fs RX3 22 2 3 := ⟨RX3, TX3, 7, rfl, tin_X3, by decide, a_in 193 (by decide +kernel) rfl⟩
def f_X3_restore (a0 : Nat) (w : aW) : Option (Int32 × aW) :=
  (gI 2 w a0 3).bind fun x1 =>
  if ¬ x1 = (0 : Int32) then
    (gR 2 w a0 0).bind fun r2 =>
    (gR 2 w a0 2).bind fun r3 =>
    cV 0 w r2 (bk (f_X0_becomeAs r2 r3 w) fun _ w4 =>
    (gR 2 w4 a0 0).bind fun r5 =>
    (gI 0 w4 r5 0).bind fun x6 =>
    some (x6, w4))
  else
    some ((-3 : Int32), w)
theorem s_X3_restore (a0 : Nat) (w : aW) : Sp rvI M_X3_restore [.ref a0] w (f_X3_restore a0 w) := by
  refine e_entry [some (.ref a0)] (by decide +kernel) (Nat.le_of_ble_eq_true rfl) (fun _ => rfl) ?_
  unfold f_X3_restore
  refine e_aload_n (pc := 0) dX3_restore_0 rfl rfl ?_
  refine e_getI (pc := 1) dX3_restore_1 hs_X3_22 (fun x1 => ?_)
  refine e_if_ne (pc := 4) (tgt := 10) dX3_restore_4 (by decide) (fun _ => ?_) (fun _ => ?_)
  · refine e_aload_n (pc := 10) dX3_restore_10 rfl rfl ?_
    refine e_getR (pc := 11) dX3_restore_11 hs_X3_10 (fun r2 => ?_)
    refine e_aload_n (pc := 14) dX3_restore_14 rfl rfl ?_
    refine e_getR (pc := 15) dX3_restore_15 hs_X3_19 (fun r3 => ?_)
    refine e_callV (pc := 18) (av := [.ref r3]) (S := []) (c0 := 0) rfl rfl ok_X0_becomeAs ⟨Nat.le_of_ble_eq_true rfl, Nat.le_of_ble_eq_true rfl⟩ hv_X3_79 dX3_restore_18 (s_X0_becomeAs r2 r3 w) rfl rfl (Nat.le_of_ble_eq_true rfl) (fun _ w4 => ?_)
    refine e_aload_n (pc := 21) dX3_restore_21 rfl rfl ?_
    refine e_getR (pc := 22) dX3_restore_22 hs_X3_10 (fun r5 => ?_)
    refine e_getI (pc := 25) dX3_restore_25 hs_X3_272 (fun x6 => ?_)
    exact e_iret (pc := 28) dX3_restore_28 rfl rfl
  · refine e_bipush (pc := 7) dX3_restore_7 kb_m3 ?_
    exact e_iret (pc := 9) dX3_restore_9 rfl rfl
def M_X3_count : aM := (yX3_count, cX3_count, 2, (some .int), 1, 22)
theorem ok_X3_count : a_okM M_X3_count 1 := ⟨⟨by decide +kernel, by decide +kernel⟩, by decide +kernel, a_in 683 (by decide +kernel) rfl, a_in 76 (by decide +kernel) rfl⟩
theorem dX3_count_0 : decode M_X3_count.2.1 0 = .ok (.iload_n 1, 1) := by decide +kernel
theorem dX3_count_1 : decode M_X3_count.2.1 1 = .ok (.tableswitch 75 0 4 #[35, 43, 51, 59, 67], 35) := by decide +kernel
theorem dX3_count_36 : decode M_X3_count.2.1 36 = .ok (.aload_n 0, 1) := by decide +kernel
theorem dX3_count_37 : decode M_X3_count.2.1 37 = .ok (.getfield 10, 3) := by decide +kernel
theorem dX3_count_40 : decode M_X3_count.2.1 40 = .ok (.getfield 275, 3) := by decide +kernel
theorem dX3_count_43 : decode M_X3_count.2.1 43 = .ok (.ireturn, 1) := by decide +kernel
theorem dX3_count_44 : decode M_X3_count.2.1 44 = .ok (.aload_n 0, 1) := by decide +kernel
theorem dX3_count_45 : decode M_X3_count.2.1 45 = .ok (.getfield 10, 3) := by decide +kernel
theorem dX3_count_48 : decode M_X3_count.2.1 48 = .ok (.getfield 272, 3) := by decide +kernel
theorem dX3_count_51 : decode M_X3_count.2.1 51 = .ok (.ireturn, 1) := by decide +kernel
theorem dX3_count_52 : decode M_X3_count.2.1 52 = .ok (.aload_n 0, 1) := by decide +kernel
theorem dX3_count_53 : decode M_X3_count.2.1 53 = .ok (.getfield 10, 3) := by decide +kernel
theorem dX3_count_56 : decode M_X3_count.2.1 56 = .ok (.getfield 172, 3) := by decide +kernel
theorem dX3_count_59 : decode M_X3_count.2.1 59 = .ok (.ireturn, 1) := by decide +kernel
theorem dX3_count_60 : decode M_X3_count.2.1 60 = .ok (.aload_n 0, 1) := by decide +kernel
theorem dX3_count_61 : decode M_X3_count.2.1 61 = .ok (.getfield 10, 3) := by decide +kernel
theorem dX3_count_64 : decode M_X3_count.2.1 64 = .ok (.invokevirtual 169, 3) := by decide +kernel
theorem dX3_count_67 : decode M_X3_count.2.1 67 = .ok (.ireturn, 1) := by decide +kernel
theorem dX3_count_68 : decode M_X3_count.2.1 68 = .ok (.aload_n 0, 1) := by decide +kernel
theorem dX3_count_69 : decode M_X3_count.2.1 69 = .ok (.getfield 10, 3) := by decide +kernel
theorem dX3_count_72 : decode M_X3_count.2.1 72 = .ok (.invokevirtual 259, 3) := by decide +kernel
theorem dX3_count_75 : decode M_X3_count.2.1 75 = .ok (.ireturn, 1) := by decide +kernel
theorem dX3_count_76 : decode M_X3_count.2.1 76 = .ok (.iconst (-1), 1) := by decide +kernel
theorem dX3_count_77 : decode M_X3_count.2.1 77 = .ok (.ireturn, 1) := by decide +kernel
theorem hs_X3_275 : a_fs RX3 275 0 1 := ⟨RX0, TX0, 13, rfl, tin_X0, by decide, a_in 108 (by decide +kernel) rfl⟩
def f_X3_count (a0 : Nat) (a1 : Int32) (w : aW) : Option (Int32 × aW) :=
  if a1 = (0 : Int32) then
    (gR 2 w a0 0).bind fun r2 =>
    (gI 0 w r2 1).bind fun x3 =>
    some (x3, w)
  else
    if a1 = (1 : Int32) then
      (gR 2 w a0 0).bind fun r5 =>
      (gI 0 w r5 0).bind fun x6 =>
      some (x6, w)
    else
      if a1 = (2 : Int32) then
        (gR 2 w a0 0).bind fun r8 =>
        (gI 0 w r8 2).bind fun x9 =>
        some (x9, w)
      else
        if a1 = (3 : Int32) then
          (gR 2 w a0 0).bind fun r11 =>
          cV 0 w r11 (bk (f_X0_calledByAnybody r11 w) fun x13 w12 =>
          some (x13, w12))
        else
          if a1 = (4 : Int32) then
            (gR 2 w a0 0).bind fun r15 =>
            cV 0 w r15 (bk (f_X0_meansOfAll r15 w) fun x17 w16 =>
            some (x17, w16))
          else
            some ((-1 : Int32), w)
theorem s_X3_count (a0 : Nat) (a1 : Int32) (w : aW) : Sp rvI M_X3_count [.ref a0, .int a1] w (f_X3_count a0 a1 w) := by
  refine e_entry [some (.ref a0), some (.int a1)] (by decide +kernel) (Nat.le_of_ble_eq_true rfl) (fun _ => rfl) ?_
  unfold f_X3_count
  refine e_iload_n (pc := 0) dX3_count_0 rfl rfl ?_
  refine e_ite (fun h1 => ?_) (fun h1 => ?_)
  · refine e_tabIn (pc := 1) (v := 0) (j := 0) (tgt := 36) dX3_count_1 h1 rfl (by decide) (by decide) rfl (by decide) ?_
    refine e_aload_n (pc := 36) dX3_count_36 rfl rfl ?_
    refine e_getR (pc := 37) dX3_count_37 hs_X3_10 (fun r2 => ?_)
    refine e_getI (pc := 40) dX3_count_40 hs_X3_275 (fun x3 => ?_)
    exact e_iret (pc := 43) dX3_count_43 rfl rfl
  · refine e_ite (fun h4 => ?_) (fun h4 => ?_)
    · refine e_tabIn (pc := 1) (v := 1) (j := 1) (tgt := 44) dX3_count_1 h4 rfl (by decide) (by decide) rfl (by decide) ?_
      refine e_aload_n (pc := 44) dX3_count_44 rfl rfl ?_
      refine e_getR (pc := 45) dX3_count_45 hs_X3_10 (fun r5 => ?_)
      refine e_getI (pc := 48) dX3_count_48 hs_X3_272 (fun x6 => ?_)
      exact e_iret (pc := 51) dX3_count_51 rfl rfl
    · refine e_ite (fun h7 => ?_) (fun h7 => ?_)
      · refine e_tabIn (pc := 1) (v := 2) (j := 2) (tgt := 52) dX3_count_1 h7 rfl (by decide) (by decide) rfl (by decide) ?_
        refine e_aload_n (pc := 52) dX3_count_52 rfl rfl ?_
        refine e_getR (pc := 53) dX3_count_53 hs_X3_10 (fun r8 => ?_)
        refine e_getI (pc := 56) dX3_count_56 hs_X3_172 (fun x9 => ?_)
        exact e_iret (pc := 59) dX3_count_59 rfl rfl
      · refine e_ite (fun h10 => ?_) (fun h10 => ?_)
        · refine e_tabIn (pc := 1) (v := 3) (j := 3) (tgt := 60) dX3_count_1 h10 rfl (by decide) (by decide) rfl (by decide) ?_
          refine e_aload_n (pc := 60) dX3_count_60 rfl rfl ?_
          refine e_getR (pc := 61) dX3_count_61 hs_X3_10 (fun r11 => ?_)
          refine e_callV (pc := 64) (av := []) (S := []) (c0 := 0) rfl rfl ok_X0_calledByAnybody ⟨Nat.le_of_ble_eq_true rfl, Nat.le_of_ble_eq_true rfl⟩ hv_X3_169 dX3_count_64 (s_X0_calledByAnybody r11 w) rfl rfl (Nat.le_of_ble_eq_true rfl) (fun x13 w12 => ?_)
          exact e_iret (pc := 67) dX3_count_67 rfl rfl
        · refine e_ite (fun h14 => ?_) (fun h14 => ?_)
          · refine e_tabIn (pc := 1) (v := 4) (j := 4) (tgt := 68) dX3_count_1 h14 rfl (by decide) (by decide) rfl (by decide) ?_
            refine e_aload_n (pc := 68) dX3_count_68 rfl rfl ?_
            refine e_getR (pc := 69) dX3_count_69 hs_X3_10 (fun r15 => ?_)
            refine e_callV (pc := 72) (av := []) (S := []) (c0 := 0) rfl rfl ok_X0_meansOfAll ⟨Nat.le_of_ble_eq_true rfl, Nat.le_of_ble_eq_true rfl⟩ hv_X3_259 dX3_count_72 (s_X0_meansOfAll r15 w) rfl rfl (Nat.le_of_ble_eq_true rfl) (fun x17 w16 => ?_)
            exact e_iret (pc := 75) dX3_count_75 rfl rfl
          · refine e_tabOut (pc := 1) (tgt := 76) dX3_count_1 (by have z0 := lv_neT h1 (show (0 : Int32).toInt = 0 from rfl); have z1 := lv_neT h4 (show (1 : Int32).toInt = 1 from rfl); have z2 := lv_neT h7 (show (2 : Int32).toInt = 2 from rfl); have z3 := lv_neT h10 (show (3 : Int32).toInt = 3 from rfl); have z4 := lv_neT h14 (show (4 : Int32).toInt = 4 from rfl); omega) (by decide) ?_
            refine e_iconst (pc := 76) dX3_count_76 kc_m1 ?_
            exact e_iret (pc := 77) dX3_count_77 rfl rfl
def M_X3_keep : aM := (yX3_keep, cX3_keep, 6, (some .int), 2, 43)
theorem ok_X3_keep : a_okM M_X3_keep 4 := ⟨⟨by decide +kernel, by decide +kernel⟩, by decide +kernel, a_in 687 (by decide +kernel) rfl, a_in 76 (by decide +kernel) rfl⟩
theorem dX3_keep_0 : decode M_X3_keep.2.1 0 = .ok (.aload_n 0, 1) := by decide +kernel
theorem dX3_keep_1 : decode M_X3_keep.2.1 1 = .ok (.iload_n 1, 1) := by decide +kernel
theorem dX3_keep_2 : decode M_X3_keep.2.1 2 = .ok (.invokevirtual 40, 3) := by decide +kernel
theorem dX3_keep_5 : decode M_X3_keep.2.1 5 = .ok (.astore 5, 2) := by decide +kernel
theorem dX3_keep_7 : decode M_X3_keep.2.1 7 = .ok (.aload 5, 2) := by decide +kernel
theorem dX3_keep_9 : decode M_X3_keep.2.1 9 = .ok (.ifnull 12, 3) := by decide +kernel
theorem dX3_keep_12 : decode M_X3_keep.2.1 12 = .ok (.iload_n 2, 1) := by decide +kernel
theorem dX3_keep_13 : decode M_X3_keep.2.1 13 = .ok (.iconst 0, 1) := by decide +kernel
theorem dX3_keep_14 : decode M_X3_keep.2.1 14 = .ok (.iconst 1, 1) := by decide +kernel
theorem dX3_keep_15 : decode M_X3_keep.2.1 15 = .ok (.invokestatic 87, 3) := by decide +kernel
theorem dX3_keep_18 : decode M_X3_keep.2.1 18 = .ok (.ifCond .ne 5, 3) := by decide +kernel
theorem dX3_keep_21 : decode M_X3_keep.2.1 21 = .ok (.iconst (-1), 1) := by decide +kernel
theorem dX3_keep_22 : decode M_X3_keep.2.1 22 = .ok (.ireturn, 1) := by decide +kernel
theorem dX3_keep_23 : decode M_X3_keep.2.1 23 = .ok (.iload_n 2, 1) := by decide +kernel
theorem dX3_keep_24 : decode M_X3_keep.2.1 24 = .ok (.ifCond .ne 10, 3) := by decide +kernel
theorem dX3_keep_27 : decode M_X3_keep.2.1 27 = .ok (.aload 5, 2) := by decide +kernel
theorem dX3_keep_29 : decode M_X3_keep.2.1 29 = .ok (.invokevirtual 278, 3) := by decide +kernel
theorem dX3_keep_32 : decode M_X3_keep.2.1 32 = .ok (.iconst 0, 1) := by decide +kernel
theorem dX3_keep_33 : decode M_X3_keep.2.1 33 = .ok (.ireturn, 1) := by decide +kernel
theorem dX3_keep_34 : decode M_X3_keep.2.1 34 = .ok (.iload_n 3, 1) := by decide +kernel
theorem dX3_keep_35 : decode M_X3_keep.2.1 35 = .ok (.invokestatic 281, 3) := by decide +kernel
theorem dX3_keep_38 : decode M_X3_keep.2.1 38 = .ok (.ifCond .eq 11, 3) := by decide +kernel
theorem dX3_keep_41 : decode M_X3_keep.2.1 41 = .ok (.iload 4, 2) := by decide +kernel
theorem dX3_keep_43 : decode M_X3_keep.2.1 43 = .ok (.invokestatic 284, 3) := by decide +kernel
theorem dX3_keep_46 : decode M_X3_keep.2.1 46 = .ok (.ifCond .ne 5, 3) := by decide +kernel
theorem dX3_keep_49 : decode M_X3_keep.2.1 49 = .ok (.iconst (-1), 1) := by decide +kernel
theorem dX3_keep_50 : decode M_X3_keep.2.1 50 = .ok (.ireturn, 1) := by decide +kernel
theorem dX3_keep_51 : decode M_X3_keep.2.1 51 = .ok (.aload 5, 2) := by decide +kernel
theorem dX3_keep_53 : decode M_X3_keep.2.1 53 = .ok (.iload_n 3, 1) := by decide +kernel
theorem dX3_keep_54 : decode M_X3_keep.2.1 54 = .ok (.iload 4, 2) := by decide +kernel
theorem dX3_keep_56 : decode M_X3_keep.2.1 56 = .ok (.invokevirtual 287, 3) := by decide +kernel
theorem dX3_keep_59 : decode M_X3_keep.2.1 59 = .ok (.iconst 0, 1) := by decide +kernel
theorem dX3_keep_60 : decode M_X3_keep.2.1 60 = .ok (.ireturn, 1) := by decide +kernel
theorem ht_X3_281 : a_okS RX3 M_X3_isSort 281 := ⟨a_in 692 (by decide +kernel) rfl, a_in 263 (by decide +kernel) rfl⟩
theorem ht_X3_284 : a_okS RX3 M_X3_isFigure 284 := ⟨a_in 693 (by decide +kernel) rfl, a_in 266 (by decide +kernel) rfl⟩
theorem hv_X3_287 : a_okV RX3 M_X1_holdBeast 287 := ⟨a_in 694 (by decide +kernel) rfl, a_in 695 (by decide +kernel) rfl, a_in 696 (by decide +kernel) rfl⟩
theorem hv_X3_278 : a_okV RX3 M_X1_becomeEmpty 278 := ⟨a_in 688 (by decide +kernel) rfl, a_in 689 (by decide +kernel) rfl, a_in 690 (by decide +kernel) rfl⟩
def f_X3_keep (a0 : Nat) (a1 : Int32) (a2 : Int32) (a3 : Int32) (a4 : Int32) (w : aW) : Option (Int32 × aW) :=
  cV 2 w a0 (bk (f_X3_shelfAt a0 a1 w) fun o2 w1 =>
  oc o2 (
    some ((-1 : Int32), w1)) fun r3 =>
  bk (f_X3_within a2 (0 : Int32) (1 : Int32) w1) fun x5 w4 =>
  if ¬ x5 = (0 : Int32) then
    if ¬ a2 = (0 : Int32) then
      bk (f_X3_isSort a3 w4) fun x7 w6 =>
      if x7 = (0 : Int32) then
        some ((-1 : Int32), w6)
      else
        bk (f_X3_isFigure a4 w6) fun x9 w8 =>
        if ¬ x9 = (0 : Int32) then
          cV 1 w8 r3 (bk (f_X1_holdBeast r3 a3 a4 w8) fun _ w10 =>
          some ((0 : Int32), w10))
        else
          some ((-1 : Int32), w8)
    else
      cV 1 w4 r3 (bk (f_X1_becomeEmpty r3 w4) fun _ w11 =>
      some ((0 : Int32), w11))
  else
    some ((-1 : Int32), w4))
theorem s_X3_keep (a0 : Nat) (a1 : Int32) (a2 : Int32) (a3 : Int32) (a4 : Int32) (w : aW) : Sp rvI M_X3_keep [.ref a0, .int a1, .int a2, .int a3, .int a4] w (f_X3_keep a0 a1 a2 a3 a4 w) := by
  refine e_entry [some (.ref a0), some (.int a1), some (.int a2), some (.int a3), some (.int a4), none] (by decide +kernel) (Nat.le_of_ble_eq_true rfl) (fun _ => rfl) ?_
  unfold f_X3_keep
  refine e_aload_n (pc := 0) dX3_keep_0 rfl rfl ?_
  refine e_iload_n (pc := 1) dX3_keep_1 rfl rfl ?_
  refine e_callV (pc := 2) (av := [.int a1]) (S := []) (c0 := 2) rfl rfl ok_X3_shelfAt ⟨Nat.le_of_ble_eq_true rfl, Nat.le_of_ble_eq_true rfl⟩ hv_X3_40 dX3_keep_2 (s_X3_shelfAt a0 a1 w) rfl rfl (Nat.le_of_ble_eq_true rfl) (fun o2 w1 => ?_)
  refine e_oc (fun _ => ?_) (fun r3 _ => ?_)
  · refine e_astoreN (L' := [some (.ref a0), some (.int a1), some (.int a2), some (.int a3), some (.int a4), some (.null)]) (pc := 5) dX3_keep_5 (by decide) rfl ?_
    refine e_aloadN (pc := 7) dX3_keep_7 rfl ?_
    refine e_ifnullN (pc := 9) (tgt := 21) dX3_keep_9 (by decide) ?_
    refine e_iconst (pc := 21) dX3_keep_21 kc_m1 ?_
    exact e_iret (pc := 22) dX3_keep_22 rfl rfl
  · refine e_astore (L' := [some (.ref a0), some (.int a1), some (.int a2), some (.int a3), some (.int a4), some (.ref r3)]) (pc := 5) dX3_keep_5 (by decide) rfl ?_
    refine e_aload (pc := 7) dX3_keep_7 rfl ?_
    refine e_ifnull (pc := 9) dX3_keep_9 ?_
    refine e_iload_n (pc := 12) dX3_keep_12 rfl rfl ?_
    refine e_iconst (pc := 13) dX3_keep_13 kc_0 ?_
    refine e_iconst (pc := 14) dX3_keep_14 kc_1 ?_
    refine e_callS (pc := 15) (av := [.int a2, .int (0 : Int32), .int (1 : Int32)]) (S := []) ok_X3_within ⟨Nat.le_of_ble_eq_true rfl, Nat.le_of_ble_eq_true rfl⟩ ht_X3_87 dX3_keep_15 (s_X3_within a2 (0 : Int32) (1 : Int32) w1) rfl rfl (Nat.le_of_ble_eq_true rfl) (fun x5 w4 => ?_)
    refine e_if_ne (pc := 18) (tgt := 23) dX3_keep_18 (by decide) (fun _ => ?_) (fun _ => ?_)
    · refine e_iload_n (pc := 23) dX3_keep_23 rfl rfl ?_
      refine e_if_ne (pc := 24) (tgt := 34) dX3_keep_24 (by decide) (fun _ => ?_) (fun _ => ?_)
      · refine e_iload_n (pc := 34) dX3_keep_34 rfl rfl ?_
        refine e_callS (pc := 35) (av := [.int a3]) (S := []) ok_X3_isSort ⟨Nat.le_of_ble_eq_true rfl, Nat.le_of_ble_eq_true rfl⟩ ht_X3_281 dX3_keep_35 (s_X3_isSort a3 w4) rfl rfl (Nat.le_of_ble_eq_true rfl) (fun x7 w6 => ?_)
        refine e_if_eq (pc := 38) (tgt := 49) dX3_keep_38 (by decide) (fun _ => ?_) (fun _ => ?_)
        · refine e_iconst (pc := 49) dX3_keep_49 kc_m1 ?_
          exact e_iret (pc := 50) dX3_keep_50 rfl rfl
        · refine e_iload (pc := 41) dX3_keep_41 rfl ?_
          refine e_callS (pc := 43) (av := [.int a4]) (S := []) ok_X3_isFigure ⟨Nat.le_of_ble_eq_true rfl, Nat.le_of_ble_eq_true rfl⟩ ht_X3_284 dX3_keep_43 (s_X3_isFigure a4 w6) rfl rfl (Nat.le_of_ble_eq_true rfl) (fun x9 w8 => ?_)
          refine e_if_ne (pc := 46) (tgt := 51) dX3_keep_46 (by decide) (fun _ => ?_) (fun _ => ?_)
          · refine e_aload (pc := 51) dX3_keep_51 rfl ?_
            refine e_iload_n (pc := 53) dX3_keep_53 rfl rfl ?_
            refine e_iload (pc := 54) dX3_keep_54 rfl ?_
            refine e_callV (pc := 56) (av := [.int a3, .int a4]) (S := []) (c0 := 1) rfl rfl ok_X1_holdBeast ⟨Nat.le_of_ble_eq_true rfl, Nat.le_of_ble_eq_true rfl⟩ hv_X3_287 dX3_keep_56 (s_X1_holdBeast r3 a3 a4 w8) rfl rfl (Nat.le_of_ble_eq_true rfl) (fun _ w10 => ?_)
            refine e_iconst (pc := 59) dX3_keep_59 kc_0 ?_
            exact e_iret (pc := 60) dX3_keep_60 rfl rfl
          · refine e_iconst (pc := 49) dX3_keep_49 kc_m1 ?_
            exact e_iret (pc := 50) dX3_keep_50 rfl rfl
      · refine e_aload (pc := 27) dX3_keep_27 rfl ?_
        refine e_callV (pc := 29) (av := []) (S := []) (c0 := 1) rfl rfl ok_X1_becomeEmpty ⟨Nat.le_of_ble_eq_true rfl, Nat.le_of_ble_eq_true rfl⟩ hv_X3_278 dX3_keep_29 (s_X1_becomeEmpty r3 w4) rfl rfl (Nat.le_of_ble_eq_true rfl) (fun _ w11 => ?_)
        refine e_iconst (pc := 32) dX3_keep_32 kc_0 ?_
        exact e_iret (pc := 33) dX3_keep_33 rfl rfl
    · refine e_iconst (pc := 21) dX3_keep_21 kc_m1 ?_
      exact e_iret (pc := 22) dX3_keep_22 rfl rfl
def M_X3_row : aM := (yX3_row, cX3_row, 5, (some .int), 2, 45)
theorem ok_X3_row : a_okM M_X3_row 3 := ⟨⟨by decide +kernel, by decide +kernel⟩, by decide +kernel, a_in 701 (by decide +kernel) rfl, a_in 76 (by decide +kernel) rfl⟩
theorem dX3_row_0 : decode M_X3_row.2.1 0 = .ok (.aload_n 0, 1) := by decide +kernel
theorem dX3_row_1 : decode M_X3_row.2.1 1 = .ok (.iload_n 1, 1) := by decide +kernel
theorem dX3_row_2 : decode M_X3_row.2.1 2 = .ok (.invokevirtual 40, 3) := by decide +kernel
theorem dX3_row_5 : decode M_X3_row.2.1 5 = .ok (.astore 4, 2) := by decide +kernel
theorem dX3_row_7 : decode M_X3_row.2.1 7 = .ok (.aload 4, 2) := by decide +kernel
theorem dX3_row_9 : decode M_X3_row.2.1 9 = .ok (.ifnull 18, 3) := by decide +kernel
theorem dX3_row_12 : decode M_X3_row.2.1 12 = .ok (.iload_n 2, 1) := by decide +kernel
theorem dX3_row_13 : decode M_X3_row.2.1 13 = .ok (.iconst 0, 1) := by decide +kernel
theorem dX3_row_14 : decode M_X3_row.2.1 14 = .ok (.iconst 2, 1) := by decide +kernel
theorem dX3_row_15 : decode M_X3_row.2.1 15 = .ok (.invokestatic 87, 3) := by decide +kernel
theorem dX3_row_18 : decode M_X3_row.2.1 18 = .ok (.ifCond .eq 9, 3) := by decide +kernel
theorem dX3_row_21 : decode M_X3_row.2.1 21 = .ok (.iload_n 3, 1) := by decide +kernel
theorem dX3_row_22 : decode M_X3_row.2.1 22 = .ok (.bipush 100, 2) := by decide +kernel
theorem dX3_row_24 : decode M_X3_row.2.1 24 = .ok (.if_icmp .le 5, 3) := by decide +kernel
theorem dX3_row_27 : decode M_X3_row.2.1 27 = .ok (.iconst (-1), 1) := by decide +kernel
theorem dX3_row_28 : decode M_X3_row.2.1 28 = .ok (.ireturn, 1) := by decide +kernel
theorem dX3_row_29 : decode M_X3_row.2.1 29 = .ok (.iload_n 3, 1) := by decide +kernel
theorem dX3_row_30 : decode M_X3_row.2.1 30 = .ok (.ifCond .ge 6, 3) := by decide +kernel
theorem dX3_row_33 : decode M_X3_row.2.1 33 = .ok (.bipush (-14), 2) := by decide +kernel
theorem dX3_row_35 : decode M_X3_row.2.1 35 = .ok (.ireturn, 1) := by decide +kernel
theorem dX3_row_36 : decode M_X3_row.2.1 36 = .ok (.aload 4, 2) := by decide +kernel
theorem dX3_row_38 : decode M_X3_row.2.1 38 = .ok (.iload_n 2, 1) := by decide +kernel
theorem dX3_row_39 : decode M_X3_row.2.1 39 = .ok (.iload_n 3, 1) := by decide +kernel
theorem dX3_row_40 : decode M_X3_row.2.1 40 = .ok (.invokevirtual 291, 3) := by decide +kernel
theorem dX3_row_43 : decode M_X3_row.2.1 43 = .ok (.iconst 0, 1) := by decide +kernel
theorem dX3_row_44 : decode M_X3_row.2.1 44 = .ok (.ireturn, 1) := by decide +kernel
theorem hv_X3_291 : a_okV RX3 M_X1_holdRow 291 := ⟨a_in 702 (by decide +kernel) rfl, a_in 703 (by decide +kernel) rfl, a_in 704 (by decide +kernel) rfl⟩
def f_X3_row (a0 : Nat) (a1 : Int32) (a2 : Int32) (a3 : Int32) (w : aW) : Option (Int32 × aW) :=
  cV 2 w a0 (bk (f_X3_shelfAt a0 a1 w) fun o2 w1 =>
  oc o2 (
    some ((-1 : Int32), w1)) fun r3 =>
  bk (f_X3_within a2 (0 : Int32) (2 : Int32) w1) fun x5 w4 =>
  if x5 = (0 : Int32) then
    some ((-1 : Int32), w4)
  else
    if a3 ≤ (100 : Int32) then
      if (0 : Int32) ≤ a3 then
        cV 1 w4 r3 (bk (f_X1_holdRow r3 a2 a3 w4) fun _ w6 =>
        some ((0 : Int32), w6))
      else
        some ((-14 : Int32), w4)
    else
      some ((-1 : Int32), w4))
theorem s_X3_row (a0 : Nat) (a1 : Int32) (a2 : Int32) (a3 : Int32) (w : aW) : Sp rvI M_X3_row [.ref a0, .int a1, .int a2, .int a3] w (f_X3_row a0 a1 a2 a3 w) := by
  refine e_entry [some (.ref a0), some (.int a1), some (.int a2), some (.int a3), none] (by decide +kernel) (Nat.le_of_ble_eq_true rfl) (fun _ => rfl) ?_
  unfold f_X3_row
  refine e_aload_n (pc := 0) dX3_row_0 rfl rfl ?_
  refine e_iload_n (pc := 1) dX3_row_1 rfl rfl ?_
  refine e_callV (pc := 2) (av := [.int a1]) (S := []) (c0 := 2) rfl rfl ok_X3_shelfAt ⟨Nat.le_of_ble_eq_true rfl, Nat.le_of_ble_eq_true rfl⟩ hv_X3_40 dX3_row_2 (s_X3_shelfAt a0 a1 w) rfl rfl (Nat.le_of_ble_eq_true rfl) (fun o2 w1 => ?_)
  refine e_oc (fun _ => ?_) (fun r3 _ => ?_)
  · refine e_astoreN (L' := [some (.ref a0), some (.int a1), some (.int a2), some (.int a3), some (.null)]) (pc := 5) dX3_row_5 (by decide) rfl ?_
    refine e_aloadN (pc := 7) dX3_row_7 rfl ?_
    refine e_ifnullN (pc := 9) (tgt := 27) dX3_row_9 (by decide) ?_
    refine e_iconst (pc := 27) dX3_row_27 kc_m1 ?_
    exact e_iret (pc := 28) dX3_row_28 rfl rfl
  · refine e_astore (L' := [some (.ref a0), some (.int a1), some (.int a2), some (.int a3), some (.ref r3)]) (pc := 5) dX3_row_5 (by decide) rfl ?_
    refine e_aload (pc := 7) dX3_row_7 rfl ?_
    refine e_ifnull (pc := 9) dX3_row_9 ?_
    refine e_iload_n (pc := 12) dX3_row_12 rfl rfl ?_
    refine e_iconst (pc := 13) dX3_row_13 kc_0 ?_
    refine e_iconst (pc := 14) dX3_row_14 kc_2 ?_
    refine e_callS (pc := 15) (av := [.int a2, .int (0 : Int32), .int (2 : Int32)]) (S := []) ok_X3_within ⟨Nat.le_of_ble_eq_true rfl, Nat.le_of_ble_eq_true rfl⟩ ht_X3_87 dX3_row_15 (s_X3_within a2 (0 : Int32) (2 : Int32) w1) rfl rfl (Nat.le_of_ble_eq_true rfl) (fun x5 w4 => ?_)
    refine e_if_eq (pc := 18) (tgt := 27) dX3_row_18 (by decide) (fun _ => ?_) (fun _ => ?_)
    · refine e_iconst (pc := 27) dX3_row_27 kc_m1 ?_
      exact e_iret (pc := 28) dX3_row_28 rfl rfl
    · refine e_iload_n (pc := 21) dX3_row_21 rfl rfl ?_
      refine e_bipush (pc := 22) dX3_row_22 kb_100 ?_
      refine e_icmp_le (pc := 24) (tgt := 29) dX3_row_24 (by decide) (fun _ => ?_) (fun _ => ?_)
      · refine e_iload_n (pc := 29) dX3_row_29 rfl rfl ?_
        refine e_if_ge (pc := 30) (tgt := 36) dX3_row_30 (by decide) (fun _ => ?_) (fun _ => ?_)
        · refine e_aload (pc := 36) dX3_row_36 rfl ?_
          refine e_iload_n (pc := 38) dX3_row_38 rfl rfl ?_
          refine e_iload_n (pc := 39) dX3_row_39 rfl rfl ?_
          refine e_callV (pc := 40) (av := [.int a2, .int a3]) (S := []) (c0 := 1) rfl rfl ok_X1_holdRow ⟨Nat.le_of_ble_eq_true rfl, Nat.le_of_ble_eq_true rfl⟩ hv_X3_291 dX3_row_40 (s_X1_holdRow r3 a2 a3 w4) rfl rfl (Nat.le_of_ble_eq_true rfl) (fun _ w6 => ?_)
          refine e_iconst (pc := 43) dX3_row_43 kc_0 ?_
          exact e_iret (pc := 44) dX3_row_44 rfl rfl
        · refine e_bipush (pc := 33) dX3_row_33 kb_m14 ?_
          exact e_iret (pc := 35) dX3_row_35 rfl rfl
      · refine e_iconst (pc := 27) dX3_row_27 kc_m1 ?_
        exact e_iret (pc := 28) dX3_row_28 rfl rfl
def M_X3_put : aM := (yX3_put, cX3_put, 6, (some .int), 2, 44)
theorem ok_X3_put : a_okM M_X3_put 3 := ⟨⟨by decide +kernel, by decide +kernel⟩, by decide +kernel, a_in 714 (by decide +kernel) rfl, a_in 76 (by decide +kernel) rfl⟩
theorem dX3_put_0 : decode M_X3_put.2.1 0 = .ok (.aload_n 0, 1) := by decide +kernel
theorem dX3_put_1 : decode M_X3_put.2.1 1 = .ok (.iload_n 1, 1) := by decide +kernel
theorem dX3_put_2 : decode M_X3_put.2.1 2 = .ok (.invokevirtual 40, 3) := by decide +kernel
theorem dX3_put_5 : decode M_X3_put.2.1 5 = .ok (.astore 4, 2) := by decide +kernel
theorem dX3_put_7 : decode M_X3_put.2.1 7 = .ok (.aload 4, 2) := by decide +kernel
theorem dX3_put_9 : decode M_X3_put.2.1 9 = .ok (.ifnonnull 5, 3) := by decide +kernel
theorem dX3_put_12 : decode M_X3_put.2.1 12 = .ok (.iconst (-1), 1) := by decide +kernel
theorem dX3_put_13 : decode M_X3_put.2.1 13 = .ok (.ireturn, 1) := by decide +kernel
theorem dX3_put_14 : decode M_X3_put.2.1 14 = .ok (.aload 4, 2) := by decide +kernel
theorem dX3_put_16 : decode M_X3_put.2.1 16 = .ok (.invokevirtual 223, 3) := by decide +kernel
theorem dX3_put_19 : decode M_X3_put.2.1 19 = .ok (.istore 5, 2) := by decide +kernel
theorem dX3_put_21 : decode M_X3_put.2.1 21 = .ok (.iload 5, 2) := by decide +kernel
theorem dX3_put_23 : decode M_X3_put.2.1 23 = .ok (.ifCond .eq 6, 3) := by decide +kernel
theorem dX3_put_26 : decode M_X3_put.2.1 26 = .ok (.iload 5, 2) := by decide +kernel
theorem dX3_put_28 : decode M_X3_put.2.1 28 = .ok (.ireturn, 1) := by decide +kernel
theorem dX3_put_29 : decode M_X3_put.2.1 29 = .ok (.iload_n 2, 1) := by decide +kernel
theorem dX3_put_30 : decode M_X3_put.2.1 30 = .ok (.iconst 0, 1) := by decide +kernel
theorem dX3_put_31 : decode M_X3_put.2.1 31 = .ok (.aload 4, 2) := by decide +kernel
theorem dX3_put_33 : decode M_X3_put.2.1 33 = .ok (.getfield 59, 3) := by decide +kernel
theorem dX3_put_36 : decode M_X3_put.2.1 36 = .ok (.iconst 1, 1) := by decide +kernel
theorem dX3_put_37 : decode M_X3_put.2.1 37 = .ok (.isub, 1) := by decide +kernel
theorem dX3_put_38 : decode M_X3_put.2.1 38 = .ok (.invokestatic 87, 3) := by decide +kernel
theorem dX3_put_41 : decode M_X3_put.2.1 41 = .ok (.ifCond .ne 6, 3) := by decide +kernel
theorem dX3_put_44 : decode M_X3_put.2.1 44 = .ok (.bipush (-13), 2) := by decide +kernel
theorem dX3_put_46 : decode M_X3_put.2.1 46 = .ok (.ireturn, 1) := by decide +kernel
theorem dX3_put_47 : decode M_X3_put.2.1 47 = .ok (.aload 4, 2) := by decide +kernel
theorem dX3_put_49 : decode M_X3_put.2.1 49 = .ok (.iload_n 2, 1) := by decide +kernel
theorem dX3_put_50 : decode M_X3_put.2.1 50 = .ok (.iload_n 3, 1) := by decide +kernel
theorem dX3_put_51 : decode M_X3_put.2.1 51 = .ok (.invokevirtual 294, 3) := by decide +kernel
theorem dX3_put_54 : decode M_X3_put.2.1 54 = .ok (.iconst 0, 1) := by decide +kernel
theorem dX3_put_55 : decode M_X3_put.2.1 55 = .ok (.ireturn, 1) := by decide +kernel
theorem hv_X3_294 : a_okV RX3 M_X1_set 294 := ⟨a_in 715 (by decide +kernel) rfl, a_in 716 (by decide +kernel) rfl, a_in 717 (by decide +kernel) rfl⟩
def f_X3_put (a0 : Nat) (a1 : Int32) (a2 : Int32) (a3 : Int32) (w : aW) : Option (Int32 × aW) :=
  cV 2 w a0 (bk (f_X3_shelfAt a0 a1 w) fun o2 w1 =>
  oc o2 (
    some ((-1 : Int32), w1)) fun r3 =>
  cV 1 w1 r3 (bk (f_X1_rowRefusal r3 w1) fun x5 w4 =>
  if x5 = (0 : Int32) then
    (gI 1 w4 r3 4).bind fun x6 =>
    bk (f_X3_within a2 (0 : Int32) (x6 - (1 : Int32)) w4) fun x8 w7 =>
    if ¬ x8 = (0 : Int32) then
      cV 1 w7 r3 (bk (f_X1_set r3 a2 a3 w7) fun _ w9 =>
      some ((0 : Int32), w9))
    else
      some ((-13 : Int32), w7)
  else
    some (x5, w4)))
theorem s_X3_put (a0 : Nat) (a1 : Int32) (a2 : Int32) (a3 : Int32) (w : aW) : Sp rvI M_X3_put [.ref a0, .int a1, .int a2, .int a3] w (f_X3_put a0 a1 a2 a3 w) := by
  refine e_entry [some (.ref a0), some (.int a1), some (.int a2), some (.int a3), none, none] (by decide +kernel) (Nat.le_of_ble_eq_true rfl) (fun _ => rfl) ?_
  unfold f_X3_put
  refine e_aload_n (pc := 0) dX3_put_0 rfl rfl ?_
  refine e_iload_n (pc := 1) dX3_put_1 rfl rfl ?_
  refine e_callV (pc := 2) (av := [.int a1]) (S := []) (c0 := 2) rfl rfl ok_X3_shelfAt ⟨Nat.le_of_ble_eq_true rfl, Nat.le_of_ble_eq_true rfl⟩ hv_X3_40 dX3_put_2 (s_X3_shelfAt a0 a1 w) rfl rfl (Nat.le_of_ble_eq_true rfl) (fun o2 w1 => ?_)
  refine e_oc (fun _ => ?_) (fun r3 _ => ?_)
  · refine e_astoreN (L' := [some (.ref a0), some (.int a1), some (.int a2), some (.int a3), some (.null), none]) (pc := 5) dX3_put_5 (by decide) rfl ?_
    refine e_aloadN (pc := 7) dX3_put_7 rfl ?_
    refine e_ifnonnullN (pc := 9) dX3_put_9 ?_
    refine e_iconst (pc := 12) dX3_put_12 kc_m1 ?_
    exact e_iret (pc := 13) dX3_put_13 rfl rfl
  · refine e_astore (L' := [some (.ref a0), some (.int a1), some (.int a2), some (.int a3), some (.ref r3), none]) (pc := 5) dX3_put_5 (by decide) rfl ?_
    refine e_aload (pc := 7) dX3_put_7 rfl ?_
    refine e_ifnonnull (pc := 9) (tgt := 14) dX3_put_9 (by decide) ?_
    refine e_aload (pc := 14) dX3_put_14 rfl ?_
    refine e_callV (pc := 16) (av := []) (S := []) (c0 := 1) rfl rfl ok_X1_rowRefusal ⟨Nat.le_of_ble_eq_true rfl, Nat.le_of_ble_eq_true rfl⟩ hv_X3_223 dX3_put_16 (s_X1_rowRefusal r3 w1) rfl rfl (Nat.le_of_ble_eq_true rfl) (fun x5 w4 => ?_)
    refine e_istore (L' := [some (.ref a0), some (.int a1), some (.int a2), some (.int a3), some (.ref r3), some (.int x5)]) (pc := 19) dX3_put_19 (by decide) rfl ?_
    refine e_iload (pc := 21) dX3_put_21 rfl ?_
    refine e_if_eq (pc := 23) (tgt := 29) dX3_put_23 (by decide) (fun _ => ?_) (fun _ => ?_)
    · refine e_iload_n (pc := 29) dX3_put_29 rfl rfl ?_
      refine e_iconst (pc := 30) dX3_put_30 kc_0 ?_
      refine e_aload (pc := 31) dX3_put_31 rfl ?_
      refine e_getI (pc := 33) dX3_put_33 hs_X3_59 (fun x6 => ?_)
      refine e_iconst (pc := 36) dX3_put_36 kc_1 ?_
      refine e_isub (pc := 37) dX3_put_37 ?_
      refine e_callS (pc := 38) (av := [.int a2, .int (0 : Int32), .int (x6 - (1 : Int32))]) (S := []) ok_X3_within ⟨Nat.le_of_ble_eq_true rfl, Nat.le_of_ble_eq_true rfl⟩ ht_X3_87 dX3_put_38 (s_X3_within a2 (0 : Int32) (x6 - (1 : Int32)) w4) rfl rfl (Nat.le_of_ble_eq_true rfl) (fun x8 w7 => ?_)
      refine e_if_ne (pc := 41) (tgt := 47) dX3_put_41 (by decide) (fun _ => ?_) (fun _ => ?_)
      · refine e_aload (pc := 47) dX3_put_47 rfl ?_
        refine e_iload_n (pc := 49) dX3_put_49 rfl rfl ?_
        refine e_iload_n (pc := 50) dX3_put_50 rfl rfl ?_
        refine e_callV (pc := 51) (av := [.int a2, .int a3]) (S := []) (c0 := 1) rfl rfl ok_X1_set ⟨Nat.le_of_ble_eq_true rfl, Nat.le_of_ble_eq_true rfl⟩ hv_X3_294 dX3_put_51 (s_X1_set r3 a2 a3 w7) rfl rfl (Nat.le_of_ble_eq_true rfl) (fun _ w9 => ?_)
        refine e_iconst (pc := 54) dX3_put_54 kc_0 ?_
        exact e_iret (pc := 55) dX3_put_55 rfl rfl
      · refine e_bipush (pc := 44) dX3_put_44 kb_m13 ?_
        exact e_iret (pc := 46) dX3_put_46 rfl rfl
    · refine e_iload (pc := 26) dX3_put_26 rfl ?_
      exact e_iret (pc := 28) dX3_put_28 rfl rfl
def M_X3_copy : aM := (yX3_copy, cX3_copy, 8, (some .int), 2, 60)
theorem ok_X3_copy : a_okM M_X3_copy 5 := ⟨⟨by decide +kernel, by decide +kernel⟩, by decide +kernel, a_in 722 (by decide +kernel) rfl, a_in 76 (by decide +kernel) rfl⟩
theorem dX3_copy_0 : decode M_X3_copy.2.1 0 = .ok (.aload_n 0, 1) := by decide +kernel
theorem dX3_copy_1 : decode M_X3_copy.2.1 1 = .ok (.iload_n 1, 1) := by decide +kernel
theorem dX3_copy_2 : decode M_X3_copy.2.1 2 = .ok (.invokevirtual 40, 3) := by decide +kernel
theorem dX3_copy_5 : decode M_X3_copy.2.1 5 = .ok (.astore 6, 2) := by decide +kernel
theorem dX3_copy_7 : decode M_X3_copy.2.1 7 = .ok (.aload_n 0, 1) := by decide +kernel
theorem dX3_copy_8 : decode M_X3_copy.2.1 8 = .ok (.iload_n 3, 1) := by decide +kernel
theorem dX3_copy_9 : decode M_X3_copy.2.1 9 = .ok (.invokevirtual 40, 3) := by decide +kernel
theorem dX3_copy_12 : decode M_X3_copy.2.1 12 = .ok (.astore 7, 2) := by decide +kernel
theorem dX3_copy_14 : decode M_X3_copy.2.1 14 = .ok (.aload 6, 2) := by decide +kernel
theorem dX3_copy_16 : decode M_X3_copy.2.1 16 = .ok (.ifnull 8, 3) := by decide +kernel
theorem dX3_copy_19 : decode M_X3_copy.2.1 19 = .ok (.aload 7, 2) := by decide +kernel
theorem dX3_copy_21 : decode M_X3_copy.2.1 21 = .ok (.ifnonnull 5, 3) := by decide +kernel
theorem dX3_copy_24 : decode M_X3_copy.2.1 24 = .ok (.iconst (-1), 1) := by decide +kernel
theorem dX3_copy_25 : decode M_X3_copy.2.1 25 = .ok (.ireturn, 1) := by decide +kernel
theorem dX3_copy_26 : decode M_X3_copy.2.1 26 = .ok (.aload 6, 2) := by decide +kernel
theorem dX3_copy_28 : decode M_X3_copy.2.1 28 = .ok (.getfield 44, 3) := by decide +kernel
theorem dX3_copy_31 : decode M_X3_copy.2.1 31 = .ok (.ifCond .eq 11, 3) := by decide +kernel
theorem dX3_copy_34 : decode M_X3_copy.2.1 34 = .ok (.aload 7, 2) := by decide +kernel
theorem dX3_copy_36 : decode M_X3_copy.2.1 36 = .ok (.getfield 44, 3) := by decide +kernel
theorem dX3_copy_39 : decode M_X3_copy.2.1 39 = .ok (.ifCond .ne 6, 3) := by decide +kernel
theorem dX3_copy_42 : decode M_X3_copy.2.1 42 = .ok (.bipush (-11), 2) := by decide +kernel
theorem dX3_copy_44 : decode M_X3_copy.2.1 44 = .ok (.ireturn, 1) := by decide +kernel
theorem dX3_copy_45 : decode M_X3_copy.2.1 45 = .ok (.aload 6, 2) := by decide +kernel
theorem dX3_copy_47 : decode M_X3_copy.2.1 47 = .ok (.getfield 44, 3) := by decide +kernel
theorem dX3_copy_50 : decode M_X3_copy.2.1 50 = .ok (.iconst 2, 1) := by decide +kernel
theorem dX3_copy_51 : decode M_X3_copy.2.1 51 = .ok (.if_icmp .ne 25, 3) := by decide +kernel
theorem dX3_copy_54 : decode M_X3_copy.2.1 54 = .ok (.aload 7, 2) := by decide +kernel
theorem dX3_copy_56 : decode M_X3_copy.2.1 56 = .ok (.getfield 44, 3) := by decide +kernel
theorem dX3_copy_59 : decode M_X3_copy.2.1 59 = .ok (.iconst 2, 1) := by decide +kernel
theorem dX3_copy_60 : decode M_X3_copy.2.1 60 = .ok (.if_icmp .ne 16, 3) := by decide +kernel
theorem dX3_copy_63 : decode M_X3_copy.2.1 63 = .ok (.aload 6, 2) := by decide +kernel
theorem dX3_copy_65 : decode M_X3_copy.2.1 65 = .ok (.getfield 311, 3) := by decide +kernel
theorem dX3_copy_68 : decode M_X3_copy.2.1 68 = .ok (.aload 7, 2) := by decide +kernel
theorem dX3_copy_70 : decode M_X3_copy.2.1 70 = .ok (.getfield 311, 3) := by decide +kernel
theorem dX3_copy_73 : decode M_X3_copy.2.1 73 = .ok (.if_icmp .eq 6, 3) := by decide +kernel
theorem dX3_copy_76 : decode M_X3_copy.2.1 76 = .ok (.bipush (-12), 2) := by decide +kernel
theorem dX3_copy_78 : decode M_X3_copy.2.1 78 = .ok (.ireturn, 1) := by decide +kernel
theorem dX3_copy_79 : decode M_X3_copy.2.1 79 = .ok (.aload 6, 2) := by decide +kernel
theorem dX3_copy_81 : decode M_X3_copy.2.1 81 = .ok (.iload_n 2, 1) := by decide +kernel
theorem dX3_copy_82 : decode M_X3_copy.2.1 82 = .ok (.iload 5, 2) := by decide +kernel
theorem dX3_copy_84 : decode M_X3_copy.2.1 84 = .ok (.invokevirtual 314, 3) := by decide +kernel
theorem dX3_copy_87 : decode M_X3_copy.2.1 87 = .ok (.ifCond .eq 15, 3) := by decide +kernel
theorem dX3_copy_90 : decode M_X3_copy.2.1 90 = .ok (.aload 7, 2) := by decide +kernel
theorem dX3_copy_92 : decode M_X3_copy.2.1 92 = .ok (.iload 4, 2) := by decide +kernel
theorem dX3_copy_94 : decode M_X3_copy.2.1 94 = .ok (.iload 5, 2) := by decide +kernel
theorem dX3_copy_96 : decode M_X3_copy.2.1 96 = .ok (.invokevirtual 314, 3) := by decide +kernel
theorem dX3_copy_99 : decode M_X3_copy.2.1 99 = .ok (.ifCond .ne 6, 3) := by decide +kernel
theorem dX3_copy_102 : decode M_X3_copy.2.1 102 = .ok (.bipush (-13), 2) := by decide +kernel
theorem dX3_copy_104 : decode M_X3_copy.2.1 104 = .ok (.ireturn, 1) := by decide +kernel
theorem dX3_copy_105 : decode M_X3_copy.2.1 105 = .ok (.aload 6, 2) := by decide +kernel
theorem dX3_copy_107 : decode M_X3_copy.2.1 107 = .ok (.getfield 317, 3) := by decide +kernel
theorem dX3_copy_110 : decode M_X3_copy.2.1 110 = .ok (.iload_n 2, 1) := by decide +kernel
theorem dX3_copy_111 : decode M_X3_copy.2.1 111 = .ok (.aload 7, 2) := by decide +kernel
theorem dX3_copy_113 : decode M_X3_copy.2.1 113 = .ok (.getfield 317, 3) := by decide +kernel
theorem dX3_copy_116 : decode M_X3_copy.2.1 116 = .ok (.iload 4, 2) := by decide +kernel
theorem dX3_copy_118 : decode M_X3_copy.2.1 118 = .ok (.iload 5, 2) := by decide +kernel
theorem dX3_copy_120 : decode M_X3_copy.2.1 120 = .ok (.invokestatic 320, 3) := by decide +kernel
theorem dX3_copy_123 : decode M_X3_copy.2.1 123 = .ok (.iload 5, 2) := by decide +kernel
theorem dX3_copy_125 : decode M_X3_copy.2.1 125 = .ok (.ireturn, 1) := by decide +kernel
theorem hs_X3_311 : a_fs RX3 311 1 3 := ⟨RX1, TX1, 6, rfl, tin_X1, by decide, a_in 172 (by decide +kernel) rfl⟩
theorem hv_X3_314 : a_okV RX3 M_X1_hasStretch 314 := ⟨a_in 723 (by decide +kernel) rfl, a_in 724 (by decide +kernel) rfl, a_in 725 (by decide +kernel) rfl⟩
theorem hs_X3_317 : a_fs RX3 317 1 5 := ⟨RX1, TX1, 6, rfl, tin_X1, by decide, a_in 176 (by decide +kernel) rfl⟩
theorem hc_X3_320 : Cond.methodLink RX3 320 arraycopyName ∈ a_T ∧ Cond.native arraycopyName ∈ a_T ∧ Cond.static arraycopyName ∈ a_T ∧ Cond.initialized "java/lang/System" ∈ a_T := ⟨a_in 727 (by decide +kernel) rfl, a_in 248 (by decide +kernel) rfl, a_in 247 (by decide +kernel) rfl, a_in 80 (by decide +kernel) rfl⟩
def f_X3_copy (a0 : Nat) (a1 : Int32) (a2 : Int32) (a3 : Int32) (a4 : Int32) (a5 : Int32) (w : aW) : Option (Int32 × aW) :=
  cV 2 w a0 (bk (f_X3_shelfAt a0 a1 w) fun o2 w1 =>
  oc o2 (
    cV 2 w1 a0 (bk (f_X3_shelfAt a0 a3 w1) fun o5 w4 =>
    oc o5 (
      some ((-1 : Int32), w4)) fun r6 =>
    some ((-1 : Int32), w4))) fun r3 =>
  cV 2 w1 a0 (bk (f_X3_shelfAt a0 a3 w1) fun o8 w7 =>
  oc o8 (
    some ((-1 : Int32), w7)) fun r9 =>
  (gI 1 w7 r3 0).bind fun x10 =>
  if x10 = (0 : Int32) then
    some ((-11 : Int32), w7)
  else
    (gI 1 w7 r9 0).bind fun x11 =>
    if ¬ x11 = (0 : Int32) then
      (gI 1 w7 r3 0).bind fun x12 =>
      if ¬ x12 = (2 : Int32) then
        some ((-12 : Int32), w7)
      else
        (gI 1 w7 r9 0).bind fun x13 =>
        if ¬ x13 = (2 : Int32) then
          some ((-12 : Int32), w7)
        else
          (gI 1 w7 r3 3).bind fun x14 =>
          (gI 1 w7 r9 3).bind fun x15 =>
          if x14 = x15 then
            cV 1 w7 r3 (bk (f_X1_hasStretch r3 a2 a5 w7) fun x17 w16 =>
            if x17 = (0 : Int32) then
              some ((-13 : Int32), w16)
            else
              cV 1 w16 r9 (bk (f_X1_hasStretch r9 a4 a5 w16) fun x19 w18 =>
              if ¬ x19 = (0 : Int32) then
                (gR 1 w18 r3 5).bind fun r20 =>
                (gR 1 w18 r9 5).bind fun r21 =>
                (cpI w18 r20 a2 r21 a4 a5).bind fun w22 =>
                some (a5, w22)
              else
                some ((-13 : Int32), w18)))
          else
            some ((-12 : Int32), w7)
    else
      some ((-11 : Int32), w7)))
theorem s_X3_copy (a0 : Nat) (a1 : Int32) (a2 : Int32) (a3 : Int32) (a4 : Int32) (a5 : Int32) (w : aW) : Sp rvI M_X3_copy [.ref a0, .int a1, .int a2, .int a3, .int a4, .int a5] w (f_X3_copy a0 a1 a2 a3 a4 a5 w) := by
  refine e_entry [some (.ref a0), some (.int a1), some (.int a2), some (.int a3), some (.int a4), some (.int a5), none, none] (by decide +kernel) (Nat.le_of_ble_eq_true rfl) (fun _ => rfl) ?_
  unfold f_X3_copy
  refine e_aload_n (pc := 0) dX3_copy_0 rfl rfl ?_
  refine e_iload_n (pc := 1) dX3_copy_1 rfl rfl ?_
  refine e_callV (pc := 2) (av := [.int a1]) (S := []) (c0 := 2) rfl rfl ok_X3_shelfAt ⟨Nat.le_of_ble_eq_true rfl, Nat.le_of_ble_eq_true rfl⟩ hv_X3_40 dX3_copy_2 (s_X3_shelfAt a0 a1 w) rfl rfl (Nat.le_of_ble_eq_true rfl) (fun o2 w1 => ?_)
  refine e_oc (fun _ => ?_) (fun r3 _ => ?_)
  · refine e_astoreN (L' := [some (.ref a0), some (.int a1), some (.int a2), some (.int a3), some (.int a4), some (.int a5), some (.null), none]) (pc := 5) dX3_copy_5 (by decide) rfl ?_
    refine e_aload_n (pc := 7) dX3_copy_7 rfl rfl ?_
    refine e_iload_n (pc := 8) dX3_copy_8 rfl rfl ?_
    refine e_callV (pc := 9) (av := [.int a3]) (S := []) (c0 := 2) rfl rfl ok_X3_shelfAt ⟨Nat.le_of_ble_eq_true rfl, Nat.le_of_ble_eq_true rfl⟩ hv_X3_40 dX3_copy_9 (s_X3_shelfAt a0 a3 w1) rfl rfl (Nat.le_of_ble_eq_true rfl) (fun o5 w4 => ?_)
    refine e_oc (fun _ => ?_) (fun r6 _ => ?_)
    · refine e_astoreN (L' := [some (.ref a0), some (.int a1), some (.int a2), some (.int a3), some (.int a4), some (.int a5), some (.null), some (.null)]) (pc := 12) dX3_copy_12 (by decide) rfl ?_
      refine e_aloadN (pc := 14) dX3_copy_14 rfl ?_
      refine e_ifnullN (pc := 16) (tgt := 24) dX3_copy_16 (by decide) ?_
      refine e_iconst (pc := 24) dX3_copy_24 kc_m1 ?_
      exact e_iret (pc := 25) dX3_copy_25 rfl rfl
    · refine e_astore (L' := [some (.ref a0), some (.int a1), some (.int a2), some (.int a3), some (.int a4), some (.int a5), some (.null), some (.ref r6)]) (pc := 12) dX3_copy_12 (by decide) rfl ?_
      refine e_aloadN (pc := 14) dX3_copy_14 rfl ?_
      refine e_ifnullN (pc := 16) (tgt := 24) dX3_copy_16 (by decide) ?_
      refine e_iconst (pc := 24) dX3_copy_24 kc_m1 ?_
      exact e_iret (pc := 25) dX3_copy_25 rfl rfl
  · refine e_astore (L' := [some (.ref a0), some (.int a1), some (.int a2), some (.int a3), some (.int a4), some (.int a5), some (.ref r3), none]) (pc := 5) dX3_copy_5 (by decide) rfl ?_
    refine e_aload_n (pc := 7) dX3_copy_7 rfl rfl ?_
    refine e_iload_n (pc := 8) dX3_copy_8 rfl rfl ?_
    refine e_callV (pc := 9) (av := [.int a3]) (S := []) (c0 := 2) rfl rfl ok_X3_shelfAt ⟨Nat.le_of_ble_eq_true rfl, Nat.le_of_ble_eq_true rfl⟩ hv_X3_40 dX3_copy_9 (s_X3_shelfAt a0 a3 w1) rfl rfl (Nat.le_of_ble_eq_true rfl) (fun o8 w7 => ?_)
    refine e_oc (fun _ => ?_) (fun r9 _ => ?_)
    · refine e_astoreN (L' := [some (.ref a0), some (.int a1), some (.int a2), some (.int a3), some (.int a4), some (.int a5), some (.ref r3), some (.null)]) (pc := 12) dX3_copy_12 (by decide) rfl ?_
      refine e_aload (pc := 14) dX3_copy_14 rfl ?_
      refine e_ifnull (pc := 16) dX3_copy_16 ?_
      refine e_aloadN (pc := 19) dX3_copy_19 rfl ?_
      refine e_ifnonnullN (pc := 21) dX3_copy_21 ?_
      refine e_iconst (pc := 24) dX3_copy_24 kc_m1 ?_
      exact e_iret (pc := 25) dX3_copy_25 rfl rfl
    · refine e_astore (L' := [some (.ref a0), some (.int a1), some (.int a2), some (.int a3), some (.int a4), some (.int a5), some (.ref r3), some (.ref r9)]) (pc := 12) dX3_copy_12 (by decide) rfl ?_
      refine e_aload (pc := 14) dX3_copy_14 rfl ?_
      refine e_ifnull (pc := 16) dX3_copy_16 ?_
      refine e_aload (pc := 19) dX3_copy_19 rfl ?_
      refine e_ifnonnull (pc := 21) (tgt := 26) dX3_copy_21 (by decide) ?_
      refine e_aload (pc := 26) dX3_copy_26 rfl ?_
      refine e_getI (pc := 28) dX3_copy_28 hs_X3_44 (fun x10 => ?_)
      refine e_if_eq (pc := 31) (tgt := 42) dX3_copy_31 (by decide) (fun _ => ?_) (fun _ => ?_)
      · refine e_bipush (pc := 42) dX3_copy_42 kb_m11 ?_
        exact e_iret (pc := 44) dX3_copy_44 rfl rfl
      · refine e_aload (pc := 34) dX3_copy_34 rfl ?_
        refine e_getI (pc := 36) dX3_copy_36 hs_X3_44 (fun x11 => ?_)
        refine e_if_ne (pc := 39) (tgt := 45) dX3_copy_39 (by decide) (fun _ => ?_) (fun _ => ?_)
        · refine e_aload (pc := 45) dX3_copy_45 rfl ?_
          refine e_getI (pc := 47) dX3_copy_47 hs_X3_44 (fun x12 => ?_)
          refine e_iconst (pc := 50) dX3_copy_50 kc_2 ?_
          refine e_icmp_ne (pc := 51) (tgt := 76) dX3_copy_51 (by decide) (fun _ => ?_) (fun _ => ?_)
          · refine e_bipush (pc := 76) dX3_copy_76 kb_m12 ?_
            exact e_iret (pc := 78) dX3_copy_78 rfl rfl
          · refine e_aload (pc := 54) dX3_copy_54 rfl ?_
            refine e_getI (pc := 56) dX3_copy_56 hs_X3_44 (fun x13 => ?_)
            refine e_iconst (pc := 59) dX3_copy_59 kc_2 ?_
            refine e_icmp_ne (pc := 60) (tgt := 76) dX3_copy_60 (by decide) (fun _ => ?_) (fun _ => ?_)
            · refine e_bipush (pc := 76) dX3_copy_76 kb_m12 ?_
              exact e_iret (pc := 78) dX3_copy_78 rfl rfl
            · refine e_aload (pc := 63) dX3_copy_63 rfl ?_
              refine e_getI (pc := 65) dX3_copy_65 hs_X3_311 (fun x14 => ?_)
              refine e_aload (pc := 68) dX3_copy_68 rfl ?_
              refine e_getI (pc := 70) dX3_copy_70 hs_X3_311 (fun x15 => ?_)
              refine e_icmp_eq (pc := 73) (tgt := 79) dX3_copy_73 (by decide) (fun _ => ?_) (fun _ => ?_)
              · refine e_aload (pc := 79) dX3_copy_79 rfl ?_
                refine e_iload_n (pc := 81) dX3_copy_81 rfl rfl ?_
                refine e_iload (pc := 82) dX3_copy_82 rfl ?_
                refine e_callV (pc := 84) (av := [.int a2, .int a5]) (S := []) (c0 := 1) rfl rfl ok_X1_hasStretch ⟨Nat.le_of_ble_eq_true rfl, Nat.le_of_ble_eq_true rfl⟩ hv_X3_314 dX3_copy_84 (s_X1_hasStretch r3 a2 a5 w7) rfl rfl (Nat.le_of_ble_eq_true rfl) (fun x17 w16 => ?_)
                refine e_if_eq (pc := 87) (tgt := 102) dX3_copy_87 (by decide) (fun _ => ?_) (fun _ => ?_)
                · refine e_bipush (pc := 102) dX3_copy_102 kb_m13 ?_
                  exact e_iret (pc := 104) dX3_copy_104 rfl rfl
                · refine e_aload (pc := 90) dX3_copy_90 rfl ?_
                  refine e_iload (pc := 92) dX3_copy_92 rfl ?_
                  refine e_iload (pc := 94) dX3_copy_94 rfl ?_
                  refine e_callV (pc := 96) (av := [.int a4, .int a5]) (S := []) (c0 := 1) rfl rfl ok_X1_hasStretch ⟨Nat.le_of_ble_eq_true rfl, Nat.le_of_ble_eq_true rfl⟩ hv_X3_314 dX3_copy_96 (s_X1_hasStretch r9 a4 a5 w16) rfl rfl (Nat.le_of_ble_eq_true rfl) (fun x19 w18 => ?_)
                  refine e_if_ne (pc := 99) (tgt := 105) dX3_copy_99 (by decide) (fun _ => ?_) (fun _ => ?_)
                  · refine e_aload (pc := 105) dX3_copy_105 rfl ?_
                    refine e_getR (pc := 107) dX3_copy_107 hs_X3_317 (fun r20 => ?_)
                    refine e_iload_n (pc := 110) dX3_copy_110 rfl rfl ?_
                    refine e_aload (pc := 111) dX3_copy_111 rfl ?_
                    refine e_getR (pc := 113) dX3_copy_113 hs_X3_317 (fun r21 => ?_)
                    refine e_iload (pc := 116) dX3_copy_116 rfl ?_
                    refine e_iload (pc := 118) dX3_copy_118 rfl ?_
                    refine e_copy (pc := 120) (by decide) (by decide) hc_X3_320 dX3_copy_120 (fun w22 => ?_)
                    refine e_iload (pc := 123) dX3_copy_123 rfl ?_
                    exact e_iret (pc := 125) dX3_copy_125 rfl rfl
                  · refine e_bipush (pc := 102) dX3_copy_102 kb_m13 ?_
                    exact e_iret (pc := 104) dX3_copy_104 rfl rfl
              · refine e_bipush (pc := 76) dX3_copy_76 kb_m12 ?_
                exact e_iret (pc := 78) dX3_copy_78 rfl rfl
        · refine e_bipush (pc := 42) dX3_copy_42 kb_m11 ?_
          exact e_iret (pc := 44) dX3_copy_44 rfl rfl
def M_X3_cost : aM := (yX3_cost, cX3_cost, 4, (some .int), 2, 43)
theorem ok_X3_cost : a_okM M_X3_cost 1 := ⟨⟨by decide +kernel, by decide +kernel⟩, by decide +kernel, a_in 731 (by decide +kernel) rfl, a_in 76 (by decide +kernel) rfl⟩
theorem dX3_cost_0 : decode M_X3_cost.2.1 0 = .ok (.aload_n 0, 1) := by decide +kernel
theorem dX3_cost_1 : decode M_X3_cost.2.1 1 = .ok (.iload_n 1, 1) := by decide +kernel
theorem dX3_cost_2 : decode M_X3_cost.2.1 2 = .ok (.invokevirtual 40, 3) := by decide +kernel
theorem dX3_cost_5 : decode M_X3_cost.2.1 5 = .ok (.astore_n 2, 1) := by decide +kernel
theorem dX3_cost_6 : decode M_X3_cost.2.1 6 = .ok (.aload_n 2, 1) := by decide +kernel
theorem dX3_cost_7 : decode M_X3_cost.2.1 7 = .ok (.ifnonnull 5, 3) := by decide +kernel
theorem dX3_cost_10 : decode M_X3_cost.2.1 10 = .ok (.iconst (-1), 1) := by decide +kernel
theorem dX3_cost_11 : decode M_X3_cost.2.1 11 = .ok (.ireturn, 1) := by decide +kernel
theorem dX3_cost_12 : decode M_X3_cost.2.1 12 = .ok (.aload_n 2, 1) := by decide +kernel
theorem dX3_cost_13 : decode M_X3_cost.2.1 13 = .ok (.invokevirtual 103, 3) := by decide +kernel
theorem dX3_cost_16 : decode M_X3_cost.2.1 16 = .ok (.istore_n 3, 1) := by decide +kernel
theorem dX3_cost_17 : decode M_X3_cost.2.1 17 = .ok (.iload_n 3, 1) := by decide +kernel
theorem dX3_cost_18 : decode M_X3_cost.2.1 18 = .ok (.ifCond .eq 7, 3) := by decide +kernel
theorem dX3_cost_21 : decode M_X3_cost.2.1 21 = .ok (.iload_n 3, 1) := by decide +kernel
theorem dX3_cost_22 : decode M_X3_cost.2.1 22 = .ok (.goto 14, 3) := by decide +kernel
theorem dX3_cost_25 : decode M_X3_cost.2.1 25 = .ok (.aload_n 2, 1) := by decide +kernel
theorem dX3_cost_26 : decode M_X3_cost.2.1 26 = .ok (.getfield 107, 3) := by decide +kernel
theorem dX3_cost_29 : decode M_X3_cost.2.1 29 = .ok (.aload_n 2, 1) := by decide +kernel
theorem dX3_cost_30 : decode M_X3_cost.2.1 30 = .ok (.getfield 110, 3) := by decide +kernel
theorem dX3_cost_33 : decode M_X3_cost.2.1 33 = .ok (.invokestatic 326, 3) := by decide +kernel
theorem dX3_cost_36 : decode M_X3_cost.2.1 36 = .ok (.ireturn, 1) := by decide +kernel
theorem ht_X3_326 : a_okS RX3 M_X2_costOf 326 := ⟨a_in 732 (by decide +kernel) rfl, a_in 733 (by decide +kernel) rfl⟩
def f_X3_cost (a0 : Nat) (a1 : Int32) (w : aW) : Option (Int32 × aW) :=
  cV 2 w a0 (bk (f_X3_shelfAt a0 a1 w) fun o2 w1 =>
  oc o2 (
    some ((-1 : Int32), w1)) fun r3 =>
  cV 1 w1 r3 (bk (f_X1_beastRefusal r3 w1) fun x5 w4 =>
  if x5 = (0 : Int32) then
    (gI 1 w4 r3 1).bind fun x6 =>
    (gI 1 w4 r3 2).bind fun x7 =>
    bk (f_X2_costOf x6 x7 w4) fun x9 w8 =>
    some (x9, w8)
  else
    some (x5, w4)))
theorem s_X3_cost (a0 : Nat) (a1 : Int32) (w : aW) : Sp rvI M_X3_cost [.ref a0, .int a1] w (f_X3_cost a0 a1 w) := by
  refine e_entry [some (.ref a0), some (.int a1), none, none] (by decide +kernel) (Nat.le_of_ble_eq_true rfl) (fun _ => rfl) ?_
  unfold f_X3_cost
  refine e_aload_n (pc := 0) dX3_cost_0 rfl rfl ?_
  refine e_iload_n (pc := 1) dX3_cost_1 rfl rfl ?_
  refine e_callV (pc := 2) (av := [.int a1]) (S := []) (c0 := 2) rfl rfl ok_X3_shelfAt ⟨Nat.le_of_ble_eq_true rfl, Nat.le_of_ble_eq_true rfl⟩ hv_X3_40 dX3_cost_2 (s_X3_shelfAt a0 a1 w) rfl rfl (Nat.le_of_ble_eq_true rfl) (fun o2 w1 => ?_)
  refine e_oc (fun _ => ?_) (fun r3 _ => ?_)
  · refine e_astore_nN (L' := [some (.ref a0), some (.int a1), some (.null), none]) (pc := 5) dX3_cost_5 rfl (by decide) rfl ?_
    refine e_aload_nN (pc := 6) dX3_cost_6 rfl rfl ?_
    refine e_ifnonnullN (pc := 7) dX3_cost_7 ?_
    refine e_iconst (pc := 10) dX3_cost_10 kc_m1 ?_
    exact e_iret (pc := 11) dX3_cost_11 rfl rfl
  · refine e_astore_n (L' := [some (.ref a0), some (.int a1), some (.ref r3), none]) (pc := 5) dX3_cost_5 rfl (by decide) rfl ?_
    refine e_aload_n (pc := 6) dX3_cost_6 rfl rfl ?_
    refine e_ifnonnull (pc := 7) (tgt := 12) dX3_cost_7 (by decide) ?_
    refine e_aload_n (pc := 12) dX3_cost_12 rfl rfl ?_
    refine e_callV (pc := 13) (av := []) (S := []) (c0 := 1) rfl rfl ok_X1_beastRefusal ⟨Nat.le_of_ble_eq_true rfl, Nat.le_of_ble_eq_true rfl⟩ hv_X3_103 dX3_cost_13 (s_X1_beastRefusal r3 w1) rfl rfl (Nat.le_of_ble_eq_true rfl) (fun x5 w4 => ?_)
    refine e_istore_n (L' := [some (.ref a0), some (.int a1), some (.ref r3), some (.int x5)]) (pc := 16) dX3_cost_16 rfl (by decide) rfl ?_
    refine e_iload_n (pc := 17) dX3_cost_17 rfl rfl ?_
    refine e_if_eq (pc := 18) (tgt := 25) dX3_cost_18 (by decide) (fun _ => ?_) (fun _ => ?_)
    · refine e_aload_n (pc := 25) dX3_cost_25 rfl rfl ?_
      refine e_getI (pc := 26) dX3_cost_26 hs_X3_107 (fun x6 => ?_)
      refine e_aload_n (pc := 29) dX3_cost_29 rfl rfl ?_
      refine e_getI (pc := 30) dX3_cost_30 hs_X3_110 (fun x7 => ?_)
      refine e_callS (pc := 33) (av := [.int x6, .int x7]) (S := []) ok_X2_costOf ⟨Nat.le_of_ble_eq_true rfl, Nat.le_of_ble_eq_true rfl⟩ ht_X3_326 dX3_cost_33 (s_X2_costOf x6 x7 w4) rfl rfl (Nat.le_of_ble_eq_true rfl) (fun x9 w8 => ?_)
      exact e_iret (pc := 36) dX3_cost_36 rfl rfl
    · refine e_iload_n (pc := 21) dX3_cost_21 rfl rfl ?_
      refine e_goto (pc := 22) (tgt := 36) dX3_cost_22 (by decide) ?_
      exact e_iret (pc := 36) dX3_cost_36 rfl rfl
def M_X4_thrown : aM := (yX4_thrown, cX4_thrown, 1, (some .int), 0, 0)
theorem ok_X4_thrown : a_okM M_X4_thrown 0 := ⟨⟨by decide +kernel, by decide +kernel⟩, by decide +kernel, a_in 981 (by decide +kernel) rfl, a_in 79 (by decide +kernel) rfl⟩
theorem dX4_thrown_0 : decode M_X4_thrown.2.1 0 = .ok (.aload_n 0, 1) := by decide +kernel
theorem dX4_thrown_1 : decode M_X4_thrown.2.1 1 = .ok (.getfield 80, 3) := by decide +kernel
theorem dX4_thrown_4 : decode M_X4_thrown.2.1 4 = .ok (.ireturn, 1) := by decide +kernel
theorem hs_X4_80 : a_fs RX4 80 3 19 := ⟨RX4, TX4, 37, rfl, tin_X4, by decide, a_in 884 (by decide +kernel) rfl⟩
def f_X4_thrown (a0 : Nat) (w : aW) : Option (Int32 × aW) :=
  (gI 3 w a0 19).bind fun x1 =>
  some (x1, w)
theorem s_X4_thrown (a0 : Nat) (w : aW) : Sp rvI M_X4_thrown [.ref a0] w (f_X4_thrown a0 w) := by
  refine e_entry [some (.ref a0)] (by decide +kernel) (Nat.le_of_ble_eq_true rfl) (fun _ => rfl) ?_
  unfold f_X4_thrown
  refine e_aload_n (pc := 0) dX4_thrown_0 rfl rfl ?_
  refine e_getI (pc := 1) dX4_thrown_1 hs_X4_80 (fun x1 => ?_)
  exact e_iret (pc := 4) dX4_thrown_4 rfl rfl
def M_X4_in : aM := (yX4_in, cX4_in, 6, (some .boolean), 0, 0)
theorem ok_X4_in : a_okM M_X4_in 3 := ⟨⟨by decide +kernel, by decide +kernel⟩, by decide +kernel, a_in 993 (by decide +kernel) rfl, a_in 79 (by decide +kernel) rfl⟩
theorem dX4_in_0 : decode M_X4_in.2.1 0 = .ok (.lload_n 0, 1) := by decide +kernel
theorem dX4_in_1 : decode M_X4_in.2.1 1 = .ok (.lload_n 2, 1) := by decide +kernel
theorem dX4_in_2 : decode M_X4_in.2.1 2 = .ok (.lcmp, 1) := by decide +kernel
theorem dX4_in_3 : decode M_X4_in.2.1 3 = .ok (.ifCond .lt 14, 3) := by decide +kernel
theorem dX4_in_6 : decode M_X4_in.2.1 6 = .ok (.lload_n 0, 1) := by decide +kernel
theorem dX4_in_7 : decode M_X4_in.2.1 7 = .ok (.lload 4, 2) := by decide +kernel
theorem dX4_in_9 : decode M_X4_in.2.1 9 = .ok (.lcmp, 1) := by decide +kernel
theorem dX4_in_10 : decode M_X4_in.2.1 10 = .ok (.ifCond .gt 7, 3) := by decide +kernel
theorem dX4_in_13 : decode M_X4_in.2.1 13 = .ok (.iconst 1, 1) := by decide +kernel
theorem dX4_in_14 : decode M_X4_in.2.1 14 = .ok (.goto 4, 3) := by decide +kernel
theorem dX4_in_17 : decode M_X4_in.2.1 17 = .ok (.iconst 0, 1) := by decide +kernel
theorem dX4_in_18 : decode M_X4_in.2.1 18 = .ok (.ireturn, 1) := by decide +kernel
def f_X4_in (a0 : Int64) (a2 : Int64) (a4 : Int64) (w : aW) : Option (Int32 × aW) :=
  if (lg_cmp a0 a2) < (0 : Int32) then
    some ((0 : Int32), w)
  else
    if (0 : Int32) < (lg_cmp a0 a4) then
      some ((0 : Int32), w)
    else
      some ((1 : Int32), w)
theorem s_X4_in (a0 : Int64) (a2 : Int64) (a4 : Int64) (w : aW) : Sp rvI M_X4_in [.long a0, .long a2, .long a4] w (f_X4_in a0 a2 a4 w) := by
  refine e_entry [some (.long a0), none, some (.long a2), none, some (.long a4), none] (by decide +kernel) (Nat.le_of_ble_eq_true rfl) (fun _ => rfl) ?_
  unfold f_X4_in
  refine e_lload_n (pc := 0) dX4_in_0 rfl rfl ?_
  refine e_lload_n (pc := 1) dX4_in_1 rfl rfl ?_
  refine e_lcmp (pc := 2) dX4_in_2 ?_
  refine e_if_lt (pc := 3) (tgt := 17) dX4_in_3 (by decide) (fun _ => ?_) (fun _ => ?_)
  · refine e_iconst (pc := 17) dX4_in_17 kc_0 ?_
    exact e_iret (pc := 18) dX4_in_18 rfl (a_nb (by decide))
  · refine e_lload_n (pc := 6) dX4_in_6 rfl rfl ?_
    refine e_lload (pc := 7) dX4_in_7 rfl ?_
    refine e_lcmp (pc := 9) dX4_in_9 ?_
    refine e_if_gt (pc := 10) (tgt := 17) dX4_in_10 (by decide) (fun _ => ?_) (fun _ => ?_)
    · refine e_iconst (pc := 17) dX4_in_17 kc_0 ?_
      exact e_iret (pc := 18) dX4_in_18 rfl (a_nb (by decide))
    · refine e_iconst (pc := 13) dX4_in_13 kc_1 ?_
      refine e_goto (pc := 14) (tgt := 18) dX4_in_14 (by decide) ?_
      exact e_iret (pc := 18) dX4_in_18 rfl (a_nb (by decide))
def M_X4_hasBit : aM := (yX4_hasBit, cX4_hasBit, 2, (some .boolean), 0, 0)
theorem ok_X4_hasBit : a_okM M_X4_hasBit 2 := ⟨⟨by decide +kernel, by decide +kernel⟩, by decide +kernel, a_in 1049 (by decide +kernel) rfl, a_in 79 (by decide +kernel) rfl⟩
theorem dX4_hasBit_0 : decode M_X4_hasBit.2.1 0 = .ok (.iload_n 0, 1) := by decide +kernel
theorem dX4_hasBit_1 : decode M_X4_hasBit.2.1 1 = .ok (.iload_n 1, 1) := by decide +kernel
theorem dX4_hasBit_2 : decode M_X4_hasBit.2.1 2 = .ok (.ishr, 1) := by decide +kernel
theorem dX4_hasBit_3 : decode M_X4_hasBit.2.1 3 = .ok (.iconst 1, 1) := by decide +kernel
theorem dX4_hasBit_4 : decode M_X4_hasBit.2.1 4 = .ok (.iand, 1) := by decide +kernel
theorem dX4_hasBit_5 : decode M_X4_hasBit.2.1 5 = .ok (.iconst 1, 1) := by decide +kernel
theorem dX4_hasBit_6 : decode M_X4_hasBit.2.1 6 = .ok (.if_icmp .ne 7, 3) := by decide +kernel
theorem dX4_hasBit_9 : decode M_X4_hasBit.2.1 9 = .ok (.iconst 1, 1) := by decide +kernel
theorem dX4_hasBit_10 : decode M_X4_hasBit.2.1 10 = .ok (.goto 4, 3) := by decide +kernel
theorem dX4_hasBit_13 : decode M_X4_hasBit.2.1 13 = .ok (.iconst 0, 1) := by decide +kernel
theorem dX4_hasBit_14 : decode M_X4_hasBit.2.1 14 = .ok (.ireturn, 1) := by decide +kernel
def f_X4_hasBit (a0 : Int32) (a1 : Int32) (w : aW) : Option (Int32 × aW) :=
  if ¬ ((a0 >>> (a1 &&& 31)) &&& (1 : Int32)) = (1 : Int32) then
    some ((0 : Int32), w)
  else
    some ((1 : Int32), w)
theorem s_X4_hasBit (a0 : Int32) (a1 : Int32) (w : aW) : Sp rvI M_X4_hasBit [.int a0, .int a1] w (f_X4_hasBit a0 a1 w) := by
  refine e_entry [some (.int a0), some (.int a1)] (by decide +kernel) (Nat.le_of_ble_eq_true rfl) (fun _ => rfl) ?_
  unfold f_X4_hasBit
  refine e_iload_n (pc := 0) dX4_hasBit_0 rfl rfl ?_
  refine e_iload_n (pc := 1) dX4_hasBit_1 rfl rfl ?_
  refine e_ishr (pc := 2) dX4_hasBit_2 ?_
  refine e_iconst (pc := 3) dX4_hasBit_3 kc_1 ?_
  refine e_iand (pc := 4) dX4_hasBit_4 ?_
  refine e_iconst (pc := 5) dX4_hasBit_5 kc_1 ?_
  refine e_icmp_ne (pc := 6) (tgt := 13) dX4_hasBit_6 (by decide) (fun _ => ?_) (fun _ => ?_)
  · refine e_iconst (pc := 13) dX4_hasBit_13 kc_0 ?_
    exact e_iret (pc := 14) dX4_hasBit_14 rfl (a_nb (by decide))
  · refine e_iconst (pc := 9) dX4_hasBit_9 kc_1 ?_
    refine e_goto (pc := 10) (tgt := 14) dX4_hasBit_10 (by decide) ?_
    exact e_iret (pc := 14) dX4_hasBit_14 rfl (a_nb (by decide))
def M_X4_onesOf : aM := (yX4_onesOf, cX4_onesOf, 3, (some .int), 0, 0)
theorem ok_X4_onesOf : a_okM M_X4_onesOf 1 := ⟨⟨by decide +kernel, by decide +kernel⟩, by decide +kernel, a_in 1199 (by decide +kernel) rfl, a_in 79 (by decide +kernel) rfl⟩
theorem dX4_onesOf_0 : decode M_X4_onesOf.2.1 0 = .ok (.iconst 0, 1) := by decide +kernel
theorem dX4_onesOf_1 : decode M_X4_onesOf.2.1 1 = .ok (.istore_n 1, 1) := by decide +kernel
theorem dX4_onesOf_2 : decode M_X4_onesOf.2.1 2 = .ok (.iload_n 0, 1) := by decide +kernel
theorem dX4_onesOf_3 : decode M_X4_onesOf.2.1 3 = .ok (.istore_n 2, 1) := by decide +kernel
theorem dX4_onesOf_4 : decode M_X4_onesOf.2.1 4 = .ok (.iload_n 2, 1) := by decide +kernel
theorem dX4_onesOf_5 : decode M_X4_onesOf.2.1 5 = .ok (.ifCond .eq 15, 3) := by decide +kernel
theorem dX4_onesOf_8 : decode M_X4_onesOf.2.1 8 = .ok (.iinc 1 1, 3) := by decide +kernel
theorem dX4_onesOf_11 : decode M_X4_onesOf.2.1 11 = .ok (.iload_n 2, 1) := by decide +kernel
theorem dX4_onesOf_12 : decode M_X4_onesOf.2.1 12 = .ok (.iload_n 2, 1) := by decide +kernel
theorem dX4_onesOf_13 : decode M_X4_onesOf.2.1 13 = .ok (.iconst 1, 1) := by decide +kernel
theorem dX4_onesOf_14 : decode M_X4_onesOf.2.1 14 = .ok (.isub, 1) := by decide +kernel
theorem dX4_onesOf_15 : decode M_X4_onesOf.2.1 15 = .ok (.iand, 1) := by decide +kernel
theorem dX4_onesOf_16 : decode M_X4_onesOf.2.1 16 = .ok (.istore_n 2, 1) := by decide +kernel
theorem dX4_onesOf_17 : decode M_X4_onesOf.2.1 17 = .ok (.goto (-13), 3) := by decide +kernel
theorem dX4_onesOf_20 : decode M_X4_onesOf.2.1 20 = .ok (.iload_n 1, 1) := by decide +kernel
theorem dX4_onesOf_21 : decode M_X4_onesOf.2.1 21 = .ok (.ireturn, 1) := by decide +kernel
def c_X4_onesOf_4 (a0 : Int32) (k4 : Int32 → Int32 → aW → Option (Int32 × aW)) (b1 : Int32) (b2 : Int32) (w : aW) : Option (Int32 × aW) :=
  if b2 = (0 : Int32) then
    some (b1, w)
  else
    k4 (b1 + 1) (b2 &&& (b2 - (1 : Int32))) w
theorem t_X4_onesOf_4 (a0 : Int32) (k4 : Int32 → Int32 → aW → Option (Int32 × aW)) (hk4 : ∀ (b1 : Int32) (b2 : Int32) (w : aW), Ev rvI M_X4_onesOf 4 [none, some (.int b1), some (.int b2)] [] w (k4 b1 b2 w)) (b1 : Int32) (b2 : Int32) (w : aW) : Ev rvI M_X4_onesOf 4 [none, some (.int b1), some (.int b2)] [] w (c_X4_onesOf_4 a0 k4 b1 b2 w) := by
  unfold c_X4_onesOf_4
  refine e_iload_n (pc := 4) dX4_onesOf_4 rfl rfl ?_
  refine e_if_eq (pc := 5) (tgt := 20) dX4_onesOf_5 (by decide) (fun _ => ?_) (fun _ => ?_)
  · refine e_iload_n (pc := 20) dX4_onesOf_20 rfl rfl ?_
    exact e_iret (pc := 21) dX4_onesOf_21 rfl rfl
  · refine e_iinc (L' := [none, some (.int (b1 + 1)), some (.int b2)]) (pc := 8) (v := 1) dX4_onesOf_8 (by decide) rfl kc_1 rfl ?_
    refine e_iload_n (pc := 11) dX4_onesOf_11 rfl rfl ?_
    refine e_iload_n (pc := 12) dX4_onesOf_12 rfl rfl ?_
    refine e_iconst (pc := 13) dX4_onesOf_13 kc_1 ?_
    refine e_isub (pc := 14) dX4_onesOf_14 ?_
    refine e_iand (pc := 15) dX4_onesOf_15 ?_
    refine e_istore_n (L' := [none, some (.int (b1 + 1)), some (.int (b2 &&& (b2 - (1 : Int32))))]) (pc := 16) dX4_onesOf_16 rfl (by decide) rfl ?_
    refine e_goto (pc := 17) (tgt := 4) dX4_onesOf_17 (by decide) ?_
    exact hk4 (b1 + 1) (b2 &&& (b2 - (1 : Int32))) w
def f_X4_onesOf (a0 : Int32) (w : aW) : Option (Int32 × aW) :=
  loop3 (c_X4_onesOf_4 a0) a_fuel (0 : Int32) a0 w
theorem s_X4_onesOf (a0 : Int32) (w : aW) : Sp rvI M_X4_onesOf [.int a0] w (f_X4_onesOf a0 w) := by
  refine e_entry [some (.int a0), none, none] (by decide +kernel) (Nat.le_of_ble_eq_true rfl) (fun _ => rfl) ?_
  unfold f_X4_onesOf
  refine e_iconst (pc := 0) dX4_onesOf_0 kc_0 ?_
  refine e_istore_n (L' := [some (.int a0), some (.int (0 : Int32)), none]) (pc := 1) dX4_onesOf_1 rfl (by decide) rfl ?_
  refine e_iload_n (pc := 2) dX4_onesOf_2 rfl rfl ?_
  refine e_istore_n (L' := [some (.int a0), some (.int (0 : Int32)), some (.int a0)]) (pc := 3) dX4_onesOf_3 rfl (by decide) rfl ?_
  refine e_forget (L2 := [none, some (.int (0 : Int32)), some (.int a0)]) (And.intro rfl (And.intro rfl trivial)) ?_
  exact e_loop3 (L := fun b1 b2 => [none, some (.int b1), some (.int b2)]) (S := fun b1 b2 => []) (fun kf hkf => t_X4_onesOf_4 a0  kf hkf) _ (0 : Int32) a0 w
def M_X4_held : aM := (yX4_held, cX4_held, 2, (some .int), 0, 0)
theorem ok_X4_held : a_okM M_X4_held 2 := ⟨⟨by decide +kernel, by decide +kernel⟩, by decide +kernel, a_in 1120 (by decide +kernel) rfl, a_in 79 (by decide +kernel) rfl⟩
theorem dX4_held_0 : decode M_X4_held.2.1 0 = .ok (.iload_n 0, 1) := by decide +kernel
theorem dX4_held_1 : decode M_X4_held.2.1 1 = .ok (.ifCond .ge 7, 3) := by decide +kernel
theorem dX4_held_4 : decode M_X4_held.2.1 4 = .ok (.iconst 0, 1) := by decide +kernel
theorem dX4_held_5 : decode M_X4_held.2.1 5 = .ok (.goto 13, 3) := by decide +kernel
theorem dX4_held_8 : decode M_X4_held.2.1 8 = .ok (.iload_n 0, 1) := by decide +kernel
theorem dX4_held_9 : decode M_X4_held.2.1 9 = .ok (.iload_n 1, 1) := by decide +kernel
theorem dX4_held_10 : decode M_X4_held.2.1 10 = .ok (.if_icmp .le 7, 3) := by decide +kernel
theorem dX4_held_13 : decode M_X4_held.2.1 13 = .ok (.iload_n 1, 1) := by decide +kernel
theorem dX4_held_14 : decode M_X4_held.2.1 14 = .ok (.goto 4, 3) := by decide +kernel
theorem dX4_held_17 : decode M_X4_held.2.1 17 = .ok (.iload_n 0, 1) := by decide +kernel
theorem dX4_held_18 : decode M_X4_held.2.1 18 = .ok (.ireturn, 1) := by decide +kernel
def f_X4_held (a0 : Int32) (a1 : Int32) (w : aW) : Option (Int32 × aW) :=
  if (0 : Int32) ≤ a0 then
    if a0 ≤ a1 then
      some (a0, w)
    else
      some (a1, w)
  else
    some ((0 : Int32), w)
theorem s_X4_held (a0 : Int32) (a1 : Int32) (w : aW) : Sp rvI M_X4_held [.int a0, .int a1] w (f_X4_held a0 a1 w) := by
  refine e_entry [some (.int a0), some (.int a1)] (by decide +kernel) (Nat.le_of_ble_eq_true rfl) (fun _ => rfl) ?_
  unfold f_X4_held
  refine e_iload_n (pc := 0) dX4_held_0 rfl rfl ?_
  refine e_if_ge (pc := 1) (tgt := 8) dX4_held_1 (by decide) (fun _ => ?_) (fun _ => ?_)
  · refine e_iload_n (pc := 8) dX4_held_8 rfl rfl ?_
    refine e_iload_n (pc := 9) dX4_held_9 rfl rfl ?_
    refine e_icmp_le (pc := 10) (tgt := 17) dX4_held_10 (by decide) (fun _ => ?_) (fun _ => ?_)
    · refine e_iload_n (pc := 17) dX4_held_17 rfl rfl ?_
      exact e_iret (pc := 18) dX4_held_18 rfl rfl
    · refine e_iload_n (pc := 13) dX4_held_13 rfl rfl ?_
      refine e_goto (pc := 14) (tgt := 18) dX4_held_14 (by decide) ?_
      exact e_iret (pc := 18) dX4_held_18 rfl rfl
  · refine e_iconst (pc := 4) dX4_held_4 kc_0 ?_
    refine e_goto (pc := 5) (tgt := 18) dX4_held_5 (by decide) ?_
    exact e_iret (pc := 18) dX4_held_18 rfl rfl
def M_X4_far : aM := (yX4_far, cX4_far, 2, (some .int), 0, 0)
theorem ok_X4_far : a_okM M_X4_far 2 := ⟨⟨by decide +kernel, by decide +kernel⟩, by decide +kernel, a_in 1093 (by decide +kernel) rfl, a_in 79 (by decide +kernel) rfl⟩
theorem dX4_far_0 : decode M_X4_far.2.1 0 = .ok (.iload_n 0, 1) := by decide +kernel
theorem dX4_far_1 : decode M_X4_far.2.1 1 = .ok (.iload_n 1, 1) := by decide +kernel
theorem dX4_far_2 : decode M_X4_far.2.1 2 = .ok (.if_icmp .ge 9, 3) := by decide +kernel
theorem dX4_far_5 : decode M_X4_far.2.1 5 = .ok (.iload_n 1, 1) := by decide +kernel
theorem dX4_far_6 : decode M_X4_far.2.1 6 = .ok (.iload_n 0, 1) := by decide +kernel
theorem dX4_far_7 : decode M_X4_far.2.1 7 = .ok (.isub, 1) := by decide +kernel
theorem dX4_far_8 : decode M_X4_far.2.1 8 = .ok (.goto 6, 3) := by decide +kernel
theorem dX4_far_11 : decode M_X4_far.2.1 11 = .ok (.iload_n 0, 1) := by decide +kernel
theorem dX4_far_12 : decode M_X4_far.2.1 12 = .ok (.iload_n 1, 1) := by decide +kernel
theorem dX4_far_13 : decode M_X4_far.2.1 13 = .ok (.isub, 1) := by decide +kernel
theorem dX4_far_14 : decode M_X4_far.2.1 14 = .ok (.ireturn, 1) := by decide +kernel
def f_X4_far (a0 : Int32) (a1 : Int32) (w : aW) : Option (Int32 × aW) :=
  if a1 ≤ a0 then
    some ((a0 - a1), w)
  else
    some ((a1 - a0), w)
theorem s_X4_far (a0 : Int32) (a1 : Int32) (w : aW) : Sp rvI M_X4_far [.int a0, .int a1] w (f_X4_far a0 a1 w) := by
  refine e_entry [some (.int a0), some (.int a1)] (by decide +kernel) (Nat.le_of_ble_eq_true rfl) (fun _ => rfl) ?_
  unfold f_X4_far
  refine e_iload_n (pc := 0) dX4_far_0 rfl rfl ?_
  refine e_iload_n (pc := 1) dX4_far_1 rfl rfl ?_
  refine e_icmp_ge (pc := 2) (tgt := 11) dX4_far_2 (by decide) (fun _ => ?_) (fun _ => ?_)
  · refine e_iload_n (pc := 11) dX4_far_11 rfl rfl ?_
    refine e_iload_n (pc := 12) dX4_far_12 rfl rfl ?_
    refine e_isub (pc := 13) dX4_far_13 ?_
    exact e_iret (pc := 14) dX4_far_14 rfl rfl
  · refine e_iload_n (pc := 5) dX4_far_5 rfl rfl ?_
    refine e_iload_n (pc := 6) dX4_far_6 rfl rfl ?_
    refine e_isub (pc := 7) dX4_far_7 ?_
    refine e_goto (pc := 8) (tgt := 14) dX4_far_8 (by decide) ?_
    exact e_iret (pc := 14) dX4_far_14 rfl rfl
def M_X4_isPlace : aM := (yX4_isPlace, cX4_isPlace, 1, (some .boolean), 1, 25)
theorem ok_X4_isPlace : a_okM M_X4_isPlace 1 := ⟨⟨by decide +kernel, by decide +kernel⟩, by decide +kernel, a_in 1037 (by decide +kernel) rfl, a_in 79 (by decide +kernel) rfl⟩
theorem dX4_isPlace_0 : decode M_X4_isPlace.2.1 0 = .ok (.iload_n 0, 1) := by decide +kernel
theorem dX4_isPlace_1 : decode M_X4_isPlace.2.1 1 = .ok (.i2l, 1) := by decide +kernel
theorem dX4_isPlace_2 : decode M_X4_isPlace.2.1 2 = .ok (.lconst 0, 1) := by decide +kernel
theorem dX4_isPlace_3 : decode M_X4_isPlace.2.1 3 = .ok (.ldc2_w 84, 3) := by decide +kernel
theorem dX4_isPlace_6 : decode M_X4_isPlace.2.1 6 = .ok (.invokestatic 86, 3) := by decide +kernel
theorem dX4_isPlace_9 : decode M_X4_isPlace.2.1 9 = .ok (.ireturn, 1) := by decide +kernel
theorem ht_X4_86 : a_okS RX4 M_X4_in 86 := ⟨a_in 991 (by decide +kernel) rfl, a_in 992 (by decide +kernel) rfl⟩
def f_X4_isPlace (a0 : Int32) (w : aW) : Option (Int32 × aW) :=
  bk (f_X4_in a0.toInt64 (0 : Int64) (15 : Int64) w) fun x2 w1 =>
  if ¬ (x2 = 0 ∨ x2 = 1) then none else some (x2, w1)
theorem s_X4_isPlace (a0 : Int32) (w : aW) : Sp rvI M_X4_isPlace [.int a0] w (f_X4_isPlace a0 w) := by
  refine e_entry [some (.int a0)] (by decide +kernel) (Nat.le_of_ble_eq_true rfl) (fun _ => rfl) ?_
  unfold f_X4_isPlace
  refine e_iload_n (pc := 0) dX4_isPlace_0 rfl rfl ?_
  refine e_i2l (pc := 1) dX4_isPlace_1 ?_
  refine e_lconst (pc := 2) (v := 0) dX4_isPlace_2 (by decide) ?_
  refine e_ldc2 (pc := 3) (v := 15) dX4_isPlace_3 (a_in 1038 (by decide +kernel) rfl) ?_
  refine e_callS (pc := 6) (av := [.long a0.toInt64, .long (0 : Int64), .long (15 : Int64)]) (S := []) ok_X4_in ⟨Nat.le_of_ble_eq_true rfl, Nat.le_of_ble_eq_true rfl⟩ ht_X4_86 dX4_isPlace_6 (s_X4_in a0.toInt64 (0 : Int64) (15 : Int64) w) rfl rfl (Nat.le_of_ble_eq_true rfl) (fun x2 w1 => ?_)
  refine e_chk (fun h3 => ?_)
  exact e_iret (pc := 9) dX4_isPlace_9 rfl (a_nb (Decidable.not_not.mp h3))
def M_X4_isPerson : aM := (yX4_isPerson, cX4_isPerson, 1, (some .boolean), 1, 25)
theorem ok_X4_isPerson : a_okM M_X4_isPerson 1 := ⟨⟨by decide +kernel, by decide +kernel⟩, by decide +kernel, a_in 1056 (by decide +kernel) rfl, a_in 79 (by decide +kernel) rfl⟩
theorem dX4_isPerson_0 : decode M_X4_isPerson.2.1 0 = .ok (.iload_n 0, 1) := by decide +kernel
theorem dX4_isPerson_1 : decode M_X4_isPerson.2.1 1 = .ok (.i2l, 1) := by decide +kernel
theorem dX4_isPerson_2 : decode M_X4_isPerson.2.1 2 = .ok (.lconst 0, 1) := by decide +kernel
theorem dX4_isPerson_3 : decode M_X4_isPerson.2.1 3 = .ok (.ldc2_w 90, 3) := by decide +kernel
theorem dX4_isPerson_6 : decode M_X4_isPerson.2.1 6 = .ok (.invokestatic 86, 3) := by decide +kernel
theorem dX4_isPerson_9 : decode M_X4_isPerson.2.1 9 = .ok (.ireturn, 1) := by decide +kernel
def f_X4_isPerson (a0 : Int32) (w : aW) : Option (Int32 × aW) :=
  bk (f_X4_in a0.toInt64 (0 : Int64) (4 : Int64) w) fun x2 w1 =>
  if ¬ (x2 = 0 ∨ x2 = 1) then none else some (x2, w1)
theorem s_X4_isPerson (a0 : Int32) (w : aW) : Sp rvI M_X4_isPerson [.int a0] w (f_X4_isPerson a0 w) := by
  refine e_entry [some (.int a0)] (by decide +kernel) (Nat.le_of_ble_eq_true rfl) (fun _ => rfl) ?_
  unfold f_X4_isPerson
  refine e_iload_n (pc := 0) dX4_isPerson_0 rfl rfl ?_
  refine e_i2l (pc := 1) dX4_isPerson_1 ?_
  refine e_lconst (pc := 2) (v := 0) dX4_isPerson_2 (by decide) ?_
  refine e_ldc2 (pc := 3) (v := 4) dX4_isPerson_3 (a_in 1057 (by decide +kernel) rfl) ?_
  refine e_callS (pc := 6) (av := [.long a0.toInt64, .long (0 : Int64), .long (4 : Int64)]) (S := []) ok_X4_in ⟨Nat.le_of_ble_eq_true rfl, Nat.le_of_ble_eq_true rfl⟩ ht_X4_86 dX4_isPerson_6 (s_X4_in a0.toInt64 (0 : Int64) (4 : Int64) w) rfl rfl (Nat.le_of_ble_eq_true rfl) (fun x2 w1 => ?_)
  refine e_chk (fun h3 => ?_)
  exact e_iret (pc := 9) dX4_isPerson_9 rfl (a_nb (Decidable.not_not.mp h3))
def M_X4_isBeast : aM := (yX4_isBeast, cX4_isBeast, 2, (some .boolean), 1, 25)
theorem ok_X4_isBeast : a_okM M_X4_isBeast 1 := ⟨⟨by decide +kernel, by decide +kernel⟩, by decide +kernel, a_in 1046 (by decide +kernel) rfl, a_in 79 (by decide +kernel) rfl⟩
theorem dX4_isBeast_0 : decode M_X4_isBeast.2.1 0 = .ok (.iload_n 1, 1) := by decide +kernel
theorem dX4_isBeast_1 : decode M_X4_isBeast.2.1 1 = .ok (.i2l, 1) := by decide +kernel
theorem dX4_isBeast_2 : decode M_X4_isBeast.2.1 2 = .ok (.lconst 0, 1) := by decide +kernel
theorem dX4_isBeast_3 : decode M_X4_isBeast.2.1 3 = .ok (.aload_n 0, 1) := by decide +kernel
theorem dX4_isBeast_4 : decode M_X4_isBeast.2.1 4 = .ok (.getfield 92, 3) := by decide +kernel
theorem dX4_isBeast_7 : decode M_X4_isBeast.2.1 7 = .ok (.iconst 1, 1) := by decide +kernel
theorem dX4_isBeast_8 : decode M_X4_isBeast.2.1 8 = .ok (.isub, 1) := by decide +kernel
theorem dX4_isBeast_9 : decode M_X4_isBeast.2.1 9 = .ok (.i2l, 1) := by decide +kernel
theorem dX4_isBeast_10 : decode M_X4_isBeast.2.1 10 = .ok (.invokestatic 86, 3) := by decide +kernel
theorem dX4_isBeast_13 : decode M_X4_isBeast.2.1 13 = .ok (.ireturn, 1) := by decide +kernel
theorem hs_X4_92 : a_fs RX4 92 3 0 := ⟨RX4, TX4, 37, rfl, tin_X4, by decide, a_in 865 (by decide +kernel) rfl⟩
def f_X4_isBeast (a0 : Nat) (a1 : Int32) (w : aW) : Option (Int32 × aW) :=
  (gI 3 w a0 0).bind fun x1 =>
  bk (f_X4_in a1.toInt64 (0 : Int64) ((x1 - (1 : Int32)).toInt64) w) fun x3 w2 =>
  if ¬ (x3 = 0 ∨ x3 = 1) then none else some (x3, w2)
theorem s_X4_isBeast (a0 : Nat) (a1 : Int32) (w : aW) : Sp rvI M_X4_isBeast [.ref a0, .int a1] w (f_X4_isBeast a0 a1 w) := by
  refine e_entry [some (.ref a0), some (.int a1)] (by decide +kernel) (Nat.le_of_ble_eq_true rfl) (fun _ => rfl) ?_
  unfold f_X4_isBeast
  refine e_iload_n (pc := 0) dX4_isBeast_0 rfl rfl ?_
  refine e_i2l (pc := 1) dX4_isBeast_1 ?_
  refine e_lconst (pc := 2) (v := 0) dX4_isBeast_2 (by decide) ?_
  refine e_aload_n (pc := 3) dX4_isBeast_3 rfl rfl ?_
  refine e_getI (pc := 4) dX4_isBeast_4 hs_X4_92 (fun x1 => ?_)
  refine e_iconst (pc := 7) dX4_isBeast_7 kc_1 ?_
  refine e_isub (pc := 8) dX4_isBeast_8 ?_
  refine e_i2l (pc := 9) dX4_isBeast_9 ?_
  refine e_callS (pc := 10) (av := [.long a1.toInt64, .long (0 : Int64), .long ((x1 - (1 : Int32)).toInt64)]) (S := []) ok_X4_in ⟨Nat.le_of_ble_eq_true rfl, Nat.le_of_ble_eq_true rfl⟩ ht_X4_86 dX4_isBeast_10 (s_X4_in a1.toInt64 (0 : Int64) ((x1 - (1 : Int32)).toInt64) w) rfl rfl (Nat.le_of_ble_eq_true rfl) (fun x3 w2 => ?_)
  refine e_chk (fun h4 => ?_)
  exact e_iret (pc := 13) dX4_isBeast_13 rfl (a_nb (Decidable.not_not.mp h4))
def M_X4_nearestOf : aM := (yX4_nearestOf, cX4_nearestOf, 4, (some .int), 1, 21)
theorem ok_X4_nearestOf : a_okM M_X4_nearestOf 1 := ⟨⟨by decide +kernel, by decide +kernel⟩, by decide +kernel, a_in 1090 (by decide +kernel) rfl, a_in 79 (by decide +kernel) rfl⟩
theorem dX4_nearestOf_0 : decode M_X4_nearestOf.2.1 0 = .ok (.iconst 0, 1) := by decide +kernel
theorem dX4_nearestOf_1 : decode M_X4_nearestOf.2.1 1 = .ok (.istore_n 2, 1) := by decide +kernel
theorem dX4_nearestOf_2 : decode M_X4_nearestOf.2.1 2 = .ok (.iconst 1, 1) := by decide +kernel
theorem dX4_nearestOf_3 : decode M_X4_nearestOf.2.1 3 = .ok (.istore_n 3, 1) := by decide +kernel
theorem dX4_nearestOf_4 : decode M_X4_nearestOf.2.1 4 = .ok (.iload_n 3, 1) := by decide +kernel
theorem dX4_nearestOf_5 : decode M_X4_nearestOf.2.1 5 = .ok (.iconst 5, 1) := by decide +kernel
theorem dX4_nearestOf_6 : decode M_X4_nearestOf.2.1 6 = .ok (.if_icmp .ge 48, 3) := by decide +kernel
theorem dX4_nearestOf_9 : decode M_X4_nearestOf.2.1 9 = .ok (.aload_n 0, 1) := by decide +kernel
theorem dX4_nearestOf_10 : decode M_X4_nearestOf.2.1 10 = .ok (.getfield 28, 3) := by decide +kernel
theorem dX4_nearestOf_13 : decode M_X4_nearestOf.2.1 13 = .ok (.iload_n 3, 1) := by decide +kernel
theorem dX4_nearestOf_14 : decode M_X4_nearestOf.2.1 14 = .ok (.iaload, 1) := by decide +kernel
theorem dX4_nearestOf_15 : decode M_X4_nearestOf.2.1 15 = .ok (.aload_n 0, 1) := by decide +kernel
theorem dX4_nearestOf_16 : decode M_X4_nearestOf.2.1 16 = .ok (.getfield 16, 3) := by decide +kernel
theorem dX4_nearestOf_19 : decode M_X4_nearestOf.2.1 19 = .ok (.iload_n 1, 1) := by decide +kernel
theorem dX4_nearestOf_20 : decode M_X4_nearestOf.2.1 20 = .ok (.iaload, 1) := by decide +kernel
theorem dX4_nearestOf_21 : decode M_X4_nearestOf.2.1 21 = .ok (.invokestatic 95, 3) := by decide +kernel
theorem dX4_nearestOf_24 : decode M_X4_nearestOf.2.1 24 = .ok (.aload_n 0, 1) := by decide +kernel
theorem dX4_nearestOf_25 : decode M_X4_nearestOf.2.1 25 = .ok (.getfield 28, 3) := by decide +kernel
theorem dX4_nearestOf_28 : decode M_X4_nearestOf.2.1 28 = .ok (.iload_n 2, 1) := by decide +kernel
theorem dX4_nearestOf_29 : decode M_X4_nearestOf.2.1 29 = .ok (.iaload, 1) := by decide +kernel
theorem dX4_nearestOf_30 : decode M_X4_nearestOf.2.1 30 = .ok (.aload_n 0, 1) := by decide +kernel
theorem dX4_nearestOf_31 : decode M_X4_nearestOf.2.1 31 = .ok (.getfield 16, 3) := by decide +kernel
theorem dX4_nearestOf_34 : decode M_X4_nearestOf.2.1 34 = .ok (.iload_n 1, 1) := by decide +kernel
theorem dX4_nearestOf_35 : decode M_X4_nearestOf.2.1 35 = .ok (.iaload, 1) := by decide +kernel
theorem dX4_nearestOf_36 : decode M_X4_nearestOf.2.1 36 = .ok (.invokestatic 95, 3) := by decide +kernel
theorem dX4_nearestOf_39 : decode M_X4_nearestOf.2.1 39 = .ok (.if_icmp .ge 7, 3) := by decide +kernel
theorem dX4_nearestOf_42 : decode M_X4_nearestOf.2.1 42 = .ok (.iload_n 3, 1) := by decide +kernel
theorem dX4_nearestOf_43 : decode M_X4_nearestOf.2.1 43 = .ok (.goto 4, 3) := by decide +kernel
theorem dX4_nearestOf_46 : decode M_X4_nearestOf.2.1 46 = .ok (.iload_n 2, 1) := by decide +kernel
theorem dX4_nearestOf_47 : decode M_X4_nearestOf.2.1 47 = .ok (.istore_n 2, 1) := by decide +kernel
theorem dX4_nearestOf_48 : decode M_X4_nearestOf.2.1 48 = .ok (.iinc 3 1, 3) := by decide +kernel
theorem dX4_nearestOf_51 : decode M_X4_nearestOf.2.1 51 = .ok (.goto (-47), 3) := by decide +kernel
theorem dX4_nearestOf_54 : decode M_X4_nearestOf.2.1 54 = .ok (.iload_n 2, 1) := by decide +kernel
theorem dX4_nearestOf_55 : decode M_X4_nearestOf.2.1 55 = .ok (.ireturn, 1) := by decide +kernel
theorem hs_X4_28 : a_fs RX4 28 3 8 := ⟨RX4, TX4, 37, rfl, tin_X4, by decide, a_in 873 (by decide +kernel) rfl⟩
theorem hs_X4_16 : a_fs RX4 16 3 3 := ⟨RX4, TX4, 37, rfl, tin_X4, by decide, a_in 868 (by decide +kernel) rfl⟩
theorem ht_X4_95 : a_okS RX4 M_X4_far 95 := ⟨a_in 1091 (by decide +kernel) rfl, a_in 1092 (by decide +kernel) rfl⟩
def c_X4_nearestOf_4 (a0 : Nat) (a1 : Int32) (k4 : Int32 → Int32 → aW → Option (Int32 × aW)) (b2 : Int32) (b3 : Int32) (w : aW) : Option (Int32 × aW) :=
  if (5 : Int32) ≤ b3 then
    some (b2, w)
  else
    (gR 3 w a0 8).bind fun r1 =>
    (gA w r1 b3).bind fun x2 =>
    (gR 3 w a0 3).bind fun r3 =>
    (gA w r3 a1).bind fun x4 =>
    bk (f_X4_far x2 x4 w) fun x6 w5 =>
    (gR 3 w5 a0 8).bind fun r7 =>
    (gA w5 r7 b2).bind fun x8 =>
    (gR 3 w5 a0 3).bind fun r9 =>
    (gA w5 r9 a1).bind fun x10 =>
    bk (f_X4_far x8 x10 w5) fun x12 w11 =>
    if x12 ≤ x6 then
      k4 b2 (b3 + 1) w11
    else
      k4 b3 (b3 + 1) w11
theorem t_X4_nearestOf_4 (a0 : Nat) (a1 : Int32) (k4 : Int32 → Int32 → aW → Option (Int32 × aW)) (hk4 : ∀ (b2 : Int32) (b3 : Int32) (w : aW), Ev rvI M_X4_nearestOf 4 [some (.ref a0), some (.int a1), some (.int b2), some (.int b3)] [] w (k4 b2 b3 w)) (b2 : Int32) (b3 : Int32) (w : aW) : Ev rvI M_X4_nearestOf 4 [some (.ref a0), some (.int a1), some (.int b2), some (.int b3)] [] w (c_X4_nearestOf_4 a0 a1 k4 b2 b3 w) := by
  unfold c_X4_nearestOf_4
  refine e_iload_n (pc := 4) dX4_nearestOf_4 rfl rfl ?_
  refine e_iconst (pc := 5) dX4_nearestOf_5 kc_5 ?_
  refine e_icmp_ge (pc := 6) (tgt := 54) dX4_nearestOf_6 (by decide) (fun _ => ?_) (fun _ => ?_)
  · refine e_iload_n (pc := 54) dX4_nearestOf_54 rfl rfl ?_
    exact e_iret (pc := 55) dX4_nearestOf_55 rfl rfl
  · refine e_aload_n (pc := 9) dX4_nearestOf_9 rfl rfl ?_
    refine e_getR (pc := 10) dX4_nearestOf_10 hs_X4_28 (fun r1 => ?_)
    refine e_iload_n (pc := 13) dX4_nearestOf_13 rfl rfl ?_
    refine e_iald (pc := 14) dX4_nearestOf_14 (fun x2 => ?_)
    refine e_aload_n (pc := 15) dX4_nearestOf_15 rfl rfl ?_
    refine e_getR (pc := 16) dX4_nearestOf_16 hs_X4_16 (fun r3 => ?_)
    refine e_iload_n (pc := 19) dX4_nearestOf_19 rfl rfl ?_
    refine e_iald (pc := 20) dX4_nearestOf_20 (fun x4 => ?_)
    refine e_callS (pc := 21) (av := [.int x2, .int x4]) (S := []) ok_X4_far ⟨Nat.le_of_ble_eq_true rfl, Nat.le_of_ble_eq_true rfl⟩ ht_X4_95 dX4_nearestOf_21 (s_X4_far x2 x4 w) rfl rfl (Nat.le_of_ble_eq_true rfl) (fun x6 w5 => ?_)
    refine e_aload_n (pc := 24) dX4_nearestOf_24 rfl rfl ?_
    refine e_getR (pc := 25) dX4_nearestOf_25 hs_X4_28 (fun r7 => ?_)
    refine e_iload_n (pc := 28) dX4_nearestOf_28 rfl rfl ?_
    refine e_iald (pc := 29) dX4_nearestOf_29 (fun x8 => ?_)
    refine e_aload_n (pc := 30) dX4_nearestOf_30 rfl rfl ?_
    refine e_getR (pc := 31) dX4_nearestOf_31 hs_X4_16 (fun r9 => ?_)
    refine e_iload_n (pc := 34) dX4_nearestOf_34 rfl rfl ?_
    refine e_iald (pc := 35) dX4_nearestOf_35 (fun x10 => ?_)
    refine e_callS (pc := 36) (av := [.int x8, .int x10]) (S := [.int x6]) ok_X4_far ⟨Nat.le_of_ble_eq_true rfl, Nat.le_of_ble_eq_true rfl⟩ ht_X4_95 dX4_nearestOf_36 (s_X4_far x8 x10 w5) rfl rfl (Nat.le_of_ble_eq_true rfl) (fun x12 w11 => ?_)
    refine e_icmp_ge (pc := 39) (tgt := 46) dX4_nearestOf_39 (by decide) (fun _ => ?_) (fun _ => ?_)
    · refine e_iload_n (pc := 46) dX4_nearestOf_46 rfl rfl ?_
      refine e_istore_n (L' := [some (.ref a0), some (.int a1), some (.int b2), some (.int b3)]) (pc := 47) dX4_nearestOf_47 rfl (by decide) rfl ?_
      refine e_iinc (L' := [some (.ref a0), some (.int a1), some (.int b2), some (.int (b3 + 1))]) (pc := 48) (v := 1) dX4_nearestOf_48 (by decide) rfl kc_1 rfl ?_
      refine e_goto (pc := 51) (tgt := 4) dX4_nearestOf_51 (by decide) ?_
      exact hk4 b2 (b3 + 1) w11
    · refine e_iload_n (pc := 42) dX4_nearestOf_42 rfl rfl ?_
      refine e_goto (pc := 43) (tgt := 47) dX4_nearestOf_43 (by decide) ?_
      refine e_istore_n (L' := [some (.ref a0), some (.int a1), some (.int b3), some (.int b3)]) (pc := 47) dX4_nearestOf_47 rfl (by decide) rfl ?_
      refine e_iinc (L' := [some (.ref a0), some (.int a1), some (.int b3), some (.int (b3 + 1))]) (pc := 48) (v := 1) dX4_nearestOf_48 (by decide) rfl kc_1 rfl ?_
      refine e_goto (pc := 51) (tgt := 4) dX4_nearestOf_51 (by decide) ?_
      exact hk4 b3 (b3 + 1) w11
def f_X4_nearestOf (a0 : Nat) (a1 : Int32) (w : aW) : Option (Int32 × aW) :=
  loop3 (c_X4_nearestOf_4 a0 a1) a_fuel (0 : Int32) (1 : Int32) w
theorem s_X4_nearestOf (a0 : Nat) (a1 : Int32) (w : aW) : Sp rvI M_X4_nearestOf [.ref a0, .int a1] w (f_X4_nearestOf a0 a1 w) := by
  refine e_entry [some (.ref a0), some (.int a1), none, none] (by decide +kernel) (Nat.le_of_ble_eq_true rfl) (fun _ => rfl) ?_
  unfold f_X4_nearestOf
  refine e_iconst (pc := 0) dX4_nearestOf_0 kc_0 ?_
  refine e_istore_n (L' := [some (.ref a0), some (.int a1), some (.int (0 : Int32)), none]) (pc := 1) dX4_nearestOf_1 rfl (by decide) rfl ?_
  refine e_iconst (pc := 2) dX4_nearestOf_2 kc_1 ?_
  refine e_istore_n (L' := [some (.ref a0), some (.int a1), some (.int (0 : Int32)), some (.int (1 : Int32))]) (pc := 3) dX4_nearestOf_3 rfl (by decide) rfl ?_
  exact e_loop3 (L := fun b2 b3 => [some (.ref a0), some (.int a1), some (.int b2), some (.int b3)]) (S := fun b2 b3 => []) (fun kf hkf => t_X4_nearestOf_4 a0 a1  kf hkf) _ (0 : Int32) (1 : Int32) w
def M_X4_richestOf : aM := (yX4_richestOf, cX4_richestOf, 3, (some .int), 0, 0)
theorem ok_X4_richestOf : a_okM M_X4_richestOf 0 := ⟨⟨by decide +kernel, by decide +kernel⟩, by decide +kernel, a_in 1097 (by decide +kernel) rfl, a_in 79 (by decide +kernel) rfl⟩
theorem dX4_richestOf_0 : decode M_X4_richestOf.2.1 0 = .ok (.iconst 0, 1) := by decide +kernel
theorem dX4_richestOf_1 : decode M_X4_richestOf.2.1 1 = .ok (.istore_n 1, 1) := by decide +kernel
theorem dX4_richestOf_2 : decode M_X4_richestOf.2.1 2 = .ok (.iconst 1, 1) := by decide +kernel
theorem dX4_richestOf_3 : decode M_X4_richestOf.2.1 3 = .ok (.istore_n 2, 1) := by decide +kernel
theorem dX4_richestOf_4 : decode M_X4_richestOf.2.1 4 = .ok (.iload_n 2, 1) := by decide +kernel
theorem dX4_richestOf_5 : decode M_X4_richestOf.2.1 5 = .ok (.iconst 5, 1) := by decide +kernel
theorem dX4_richestOf_6 : decode M_X4_richestOf.2.1 6 = .ok (.if_icmp .ge 30, 3) := by decide +kernel
theorem dX4_richestOf_9 : decode M_X4_richestOf.2.1 9 = .ok (.aload_n 0, 1) := by decide +kernel
theorem dX4_richestOf_10 : decode M_X4_richestOf.2.1 10 = .ok (.getfield 25, 3) := by decide +kernel
theorem dX4_richestOf_13 : decode M_X4_richestOf.2.1 13 = .ok (.iload_n 2, 1) := by decide +kernel
theorem dX4_richestOf_14 : decode M_X4_richestOf.2.1 14 = .ok (.iaload, 1) := by decide +kernel
theorem dX4_richestOf_15 : decode M_X4_richestOf.2.1 15 = .ok (.aload_n 0, 1) := by decide +kernel
theorem dX4_richestOf_16 : decode M_X4_richestOf.2.1 16 = .ok (.getfield 25, 3) := by decide +kernel
theorem dX4_richestOf_19 : decode M_X4_richestOf.2.1 19 = .ok (.iload_n 1, 1) := by decide +kernel
theorem dX4_richestOf_20 : decode M_X4_richestOf.2.1 20 = .ok (.iaload, 1) := by decide +kernel
theorem dX4_richestOf_21 : decode M_X4_richestOf.2.1 21 = .ok (.if_icmp .le 7, 3) := by decide +kernel
theorem dX4_richestOf_24 : decode M_X4_richestOf.2.1 24 = .ok (.iload_n 2, 1) := by decide +kernel
theorem dX4_richestOf_25 : decode M_X4_richestOf.2.1 25 = .ok (.goto 4, 3) := by decide +kernel
theorem dX4_richestOf_28 : decode M_X4_richestOf.2.1 28 = .ok (.iload_n 1, 1) := by decide +kernel
theorem dX4_richestOf_29 : decode M_X4_richestOf.2.1 29 = .ok (.istore_n 1, 1) := by decide +kernel
theorem dX4_richestOf_30 : decode M_X4_richestOf.2.1 30 = .ok (.iinc 2 1, 3) := by decide +kernel
theorem dX4_richestOf_33 : decode M_X4_richestOf.2.1 33 = .ok (.goto (-29), 3) := by decide +kernel
theorem dX4_richestOf_36 : decode M_X4_richestOf.2.1 36 = .ok (.iload_n 1, 1) := by decide +kernel
theorem dX4_richestOf_37 : decode M_X4_richestOf.2.1 37 = .ok (.ireturn, 1) := by decide +kernel
theorem hs_X4_25 : a_fs RX4 25 3 7 := ⟨RX4, TX4, 37, rfl, tin_X4, by decide, a_in 872 (by decide +kernel) rfl⟩
def c_X4_richestOf_4 (a0 : Nat) (k4 : Int32 → Int32 → aW → Option (Int32 × aW)) (b1 : Int32) (b2 : Int32) (w : aW) : Option (Int32 × aW) :=
  if (5 : Int32) ≤ b2 then
    some (b1, w)
  else
    (gR 3 w a0 7).bind fun r1 =>
    (gA w r1 b2).bind fun x2 =>
    (gR 3 w a0 7).bind fun r3 =>
    (gA w r3 b1).bind fun x4 =>
    if x2 ≤ x4 then
      k4 b1 (b2 + 1) w
    else
      k4 b2 (b2 + 1) w
theorem t_X4_richestOf_4 (a0 : Nat) (k4 : Int32 → Int32 → aW → Option (Int32 × aW)) (hk4 : ∀ (b1 : Int32) (b2 : Int32) (w : aW), Ev rvI M_X4_richestOf 4 [some (.ref a0), some (.int b1), some (.int b2)] [] w (k4 b1 b2 w)) (b1 : Int32) (b2 : Int32) (w : aW) : Ev rvI M_X4_richestOf 4 [some (.ref a0), some (.int b1), some (.int b2)] [] w (c_X4_richestOf_4 a0 k4 b1 b2 w) := by
  unfold c_X4_richestOf_4
  refine e_iload_n (pc := 4) dX4_richestOf_4 rfl rfl ?_
  refine e_iconst (pc := 5) dX4_richestOf_5 kc_5 ?_
  refine e_icmp_ge (pc := 6) (tgt := 36) dX4_richestOf_6 (by decide) (fun _ => ?_) (fun _ => ?_)
  · refine e_iload_n (pc := 36) dX4_richestOf_36 rfl rfl ?_
    exact e_iret (pc := 37) dX4_richestOf_37 rfl rfl
  · refine e_aload_n (pc := 9) dX4_richestOf_9 rfl rfl ?_
    refine e_getR (pc := 10) dX4_richestOf_10 hs_X4_25 (fun r1 => ?_)
    refine e_iload_n (pc := 13) dX4_richestOf_13 rfl rfl ?_
    refine e_iald (pc := 14) dX4_richestOf_14 (fun x2 => ?_)
    refine e_aload_n (pc := 15) dX4_richestOf_15 rfl rfl ?_
    refine e_getR (pc := 16) dX4_richestOf_16 hs_X4_25 (fun r3 => ?_)
    refine e_iload_n (pc := 19) dX4_richestOf_19 rfl rfl ?_
    refine e_iald (pc := 20) dX4_richestOf_20 (fun x4 => ?_)
    refine e_icmp_le (pc := 21) (tgt := 28) dX4_richestOf_21 (by decide) (fun _ => ?_) (fun _ => ?_)
    · refine e_iload_n (pc := 28) dX4_richestOf_28 rfl rfl ?_
      refine e_istore_n (L' := [some (.ref a0), some (.int b1), some (.int b2)]) (pc := 29) dX4_richestOf_29 rfl (by decide) rfl ?_
      refine e_iinc (L' := [some (.ref a0), some (.int b1), some (.int (b2 + 1))]) (pc := 30) (v := 1) dX4_richestOf_30 (by decide) rfl kc_1 rfl ?_
      refine e_goto (pc := 33) (tgt := 4) dX4_richestOf_33 (by decide) ?_
      exact hk4 b1 (b2 + 1) w
    · refine e_iload_n (pc := 24) dX4_richestOf_24 rfl rfl ?_
      refine e_goto (pc := 25) (tgt := 29) dX4_richestOf_25 (by decide) ?_
      refine e_istore_n (L' := [some (.ref a0), some (.int b2), some (.int b2)]) (pc := 29) dX4_richestOf_29 rfl (by decide) rfl ?_
      refine e_iinc (L' := [some (.ref a0), some (.int b2), some (.int (b2 + 1))]) (pc := 30) (v := 1) dX4_richestOf_30 (by decide) rfl kc_1 rfl ?_
      refine e_goto (pc := 33) (tgt := 4) dX4_richestOf_33 (by decide) ?_
      exact hk4 b2 (b2 + 1) w
def f_X4_richestOf (a0 : Nat) (w : aW) : Option (Int32 × aW) :=
  loop3 (c_X4_richestOf_4 a0) a_fuel (0 : Int32) (1 : Int32) w
theorem s_X4_richestOf (a0 : Nat) (w : aW) : Sp rvI M_X4_richestOf [.ref a0] w (f_X4_richestOf a0 w) := by
  refine e_entry [some (.ref a0), none, none] (by decide +kernel) (Nat.le_of_ble_eq_true rfl) (fun _ => rfl) ?_
  unfold f_X4_richestOf
  refine e_iconst (pc := 0) dX4_richestOf_0 kc_0 ?_
  refine e_istore_n (L' := [some (.ref a0), some (.int (0 : Int32)), none]) (pc := 1) dX4_richestOf_1 rfl (by decide) rfl ?_
  refine e_iconst (pc := 2) dX4_richestOf_2 kc_1 ?_
  refine e_istore_n (L' := [some (.ref a0), some (.int (0 : Int32)), some (.int (1 : Int32))]) (pc := 3) dX4_richestOf_3 rfl (by decide) rfl ?_
  exact e_loop3 (L := fun b1 b2 => [some (.ref a0), some (.int b1), some (.int b2)]) (S := fun b1 b2 => []) (fun kf hkf => t_X4_richestOf_4 a0  kf hkf) _ (0 : Int32) (1 : Int32) w
def M_X4_wantsOf : aM := (yX4_wantsOf, cX4_wantsOf, 7, (some .int), 2, 44)
theorem ok_X4_wantsOf : a_okM M_X4_wantsOf 2 := ⟨⟨by decide +kernel, by decide +kernel⟩, by decide +kernel, a_in 1086 (by decide +kernel) rfl, a_in 79 (by decide +kernel) rfl⟩
theorem dX4_wantsOf_0 : decode M_X4_wantsOf.2.1 0 = .ok (.aload_n 0, 1) := by decide +kernel
theorem dX4_wantsOf_1 : decode M_X4_wantsOf.2.1 1 = .ok (.getfield 28, 3) := by decide +kernel
theorem dX4_wantsOf_4 : decode M_X4_wantsOf.2.1 4 = .ok (.aload_n 0, 1) := by decide +kernel
theorem dX4_wantsOf_5 : decode M_X4_wantsOf.2.1 5 = .ok (.iload_n 1, 1) := by decide +kernel
theorem dX4_wantsOf_6 : decode M_X4_wantsOf.2.1 6 = .ok (.invokevirtual 99, 3) := by decide +kernel
theorem dX4_wantsOf_9 : decode M_X4_wantsOf.2.1 9 = .ok (.iaload, 1) := by decide +kernel
theorem dX4_wantsOf_10 : decode M_X4_wantsOf.2.1 10 = .ok (.istore_n 3, 1) := by decide +kernel
theorem dX4_wantsOf_11 : decode M_X4_wantsOf.2.1 11 = .ok (.aload_n 0, 1) := by decide +kernel
theorem dX4_wantsOf_12 : decode M_X4_wantsOf.2.1 12 = .ok (.getfield 28, 3) := by decide +kernel
theorem dX4_wantsOf_15 : decode M_X4_wantsOf.2.1 15 = .ok (.aload_n 0, 1) := by decide +kernel
theorem dX4_wantsOf_16 : decode M_X4_wantsOf.2.1 16 = .ok (.invokevirtual 103, 3) := by decide +kernel
theorem dX4_wantsOf_19 : decode M_X4_wantsOf.2.1 19 = .ok (.iaload, 1) := by decide +kernel
theorem dX4_wantsOf_20 : decode M_X4_wantsOf.2.1 20 = .ok (.istore 4, 2) := by decide +kernel
theorem dX4_wantsOf_22 : decode M_X4_wantsOf.2.1 22 = .ok (.iload_n 3, 1) := by decide +kernel
theorem dX4_wantsOf_23 : decode M_X4_wantsOf.2.1 23 = .ok (.aload_n 0, 1) := by decide +kernel
theorem dX4_wantsOf_24 : decode M_X4_wantsOf.2.1 24 = .ok (.getfield 16, 3) := by decide +kernel
theorem dX4_wantsOf_27 : decode M_X4_wantsOf.2.1 27 = .ok (.iload_n 1, 1) := by decide +kernel
theorem dX4_wantsOf_28 : decode M_X4_wantsOf.2.1 28 = .ok (.iaload, 1) := by decide +kernel
theorem dX4_wantsOf_29 : decode M_X4_wantsOf.2.1 29 = .ok (.if_icmp .gt 8, 3) := by decide +kernel
theorem dX4_wantsOf_32 : decode M_X4_wantsOf.2.1 32 = .ok (.bipush 15, 2) := by decide +kernel
theorem dX4_wantsOf_34 : decode M_X4_wantsOf.2.1 34 = .ok (.goto 4, 3) := by decide +kernel
theorem dX4_wantsOf_37 : decode M_X4_wantsOf.2.1 37 = .ok (.iconst 0, 1) := by decide +kernel
theorem dX4_wantsOf_38 : decode M_X4_wantsOf.2.1 38 = .ok (.istore 5, 2) := by decide +kernel
theorem dX4_wantsOf_40 : decode M_X4_wantsOf.2.1 40 = .ok (.aload_n 0, 1) := by decide +kernel
theorem dX4_wantsOf_41 : decode M_X4_wantsOf.2.1 41 = .ok (.getfield 19, 3) := by decide +kernel
theorem dX4_wantsOf_44 : decode M_X4_wantsOf.2.1 44 = .ok (.iload_n 1, 1) := by decide +kernel
theorem dX4_wantsOf_45 : decode M_X4_wantsOf.2.1 45 = .ok (.iaload, 1) := by decide +kernel
theorem dX4_wantsOf_46 : decode M_X4_wantsOf.2.1 46 = .ok (.istore 6, 2) := by decide +kernel
theorem dX4_wantsOf_48 : decode M_X4_wantsOf.2.1 48 = .ok (.aload_n 0, 1) := by decide +kernel
theorem dX4_wantsOf_49 : decode M_X4_wantsOf.2.1 49 = .ok (.getfield 7, 3) := by decide +kernel
theorem dX4_wantsOf_52 : decode M_X4_wantsOf.2.1 52 = .ok (.iload_n 1, 1) := by decide +kernel
theorem dX4_wantsOf_53 : decode M_X4_wantsOf.2.1 53 = .ok (.iaload, 1) := by decide +kernel
theorem dX4_wantsOf_54 : decode M_X4_wantsOf.2.1 54 = .ok (.tableswitch 152 1 7 #[42, 62, 80, 83, 108, 111, 126], 42) := by decide +kernel
theorem dX4_wantsOf_96 : decode M_X4_wantsOf.2.1 96 = .ok (.iload_n 2, 1) := by decide +kernel
theorem dX4_wantsOf_97 : decode M_X4_wantsOf.2.1 97 = .ok (.aload_n 0, 1) := by decide +kernel
theorem dX4_wantsOf_98 : decode M_X4_wantsOf.2.1 98 = .ok (.getfield 13, 3) := by decide +kernel
theorem dX4_wantsOf_101 : decode M_X4_wantsOf.2.1 101 = .ok (.iload_n 1, 1) := by decide +kernel
theorem dX4_wantsOf_102 : decode M_X4_wantsOf.2.1 102 = .ok (.iaload, 1) := by decide +kernel
theorem dX4_wantsOf_103 : decode M_X4_wantsOf.2.1 103 = .ok (.iconst 2, 1) := by decide +kernel
theorem dX4_wantsOf_104 : decode M_X4_wantsOf.2.1 104 = .ok (.iadd, 1) := by decide +kernel
theorem dX4_wantsOf_105 : decode M_X4_wantsOf.2.1 105 = .ok (.irem, 1) := by decide +kernel
theorem dX4_wantsOf_106 : decode M_X4_wantsOf.2.1 106 = .ok (.ifCond .ne 7, 3) := by decide +kernel
theorem dX4_wantsOf_109 : decode M_X4_wantsOf.2.1 109 = .ok (.iload_n 3, 1) := by decide +kernel
theorem dX4_wantsOf_110 : decode M_X4_wantsOf.2.1 110 = .ok (.goto 5, 3) := by decide +kernel
theorem dX4_wantsOf_113 : decode M_X4_wantsOf.2.1 113 = .ok (.bipush (-4), 2) := by decide +kernel
theorem dX4_wantsOf_115 : decode M_X4_wantsOf.2.1 115 = .ok (.ireturn, 1) := by decide +kernel
theorem dX4_wantsOf_116 : decode M_X4_wantsOf.2.1 116 = .ok (.iload 6, 2) := by decide +kernel
theorem dX4_wantsOf_118 : decode M_X4_wantsOf.2.1 118 = .ok (.aload_n 0, 1) := by decide +kernel
theorem dX4_wantsOf_119 : decode M_X4_wantsOf.2.1 119 = .ok (.getfield 13, 3) := by decide +kernel
theorem dX4_wantsOf_122 : decode M_X4_wantsOf.2.1 122 = .ok (.iload_n 1, 1) := by decide +kernel
theorem dX4_wantsOf_123 : decode M_X4_wantsOf.2.1 123 = .ok (.iaload, 1) := by decide +kernel
theorem dX4_wantsOf_124 : decode M_X4_wantsOf.2.1 124 = .ok (.if_icmp .lt 7, 3) := by decide +kernel
theorem dX4_wantsOf_127 : decode M_X4_wantsOf.2.1 127 = .ok (.iload_n 3, 1) := by decide +kernel
theorem dX4_wantsOf_128 : decode M_X4_wantsOf.2.1 128 = .ok (.goto 5, 3) := by decide +kernel
theorem dX4_wantsOf_131 : decode M_X4_wantsOf.2.1 131 = .ok (.bipush (-4), 2) := by decide +kernel
theorem dX4_wantsOf_133 : decode M_X4_wantsOf.2.1 133 = .ok (.ireturn, 1) := by decide +kernel
theorem dX4_wantsOf_134 : decode M_X4_wantsOf.2.1 134 = .ok (.iload 4, 2) := by decide +kernel
theorem dX4_wantsOf_136 : decode M_X4_wantsOf.2.1 136 = .ok (.ireturn, 1) := by decide +kernel
theorem dX4_wantsOf_137 : decode M_X4_wantsOf.2.1 137 = .ok (.aload_n 0, 1) := by decide +kernel
theorem dX4_wantsOf_138 : decode M_X4_wantsOf.2.1 138 = .ok (.getfield 22, 3) := by decide +kernel
theorem dX4_wantsOf_141 : decode M_X4_wantsOf.2.1 141 = .ok (.iload_n 1, 1) := by decide +kernel
theorem dX4_wantsOf_142 : decode M_X4_wantsOf.2.1 142 = .ok (.iaload, 1) := by decide +kernel
theorem dX4_wantsOf_143 : decode M_X4_wantsOf.2.1 143 = .ok (.ifCond .lt 17, 3) := by decide +kernel
theorem dX4_wantsOf_146 : decode M_X4_wantsOf.2.1 146 = .ok (.aload_n 0, 1) := by decide +kernel
theorem dX4_wantsOf_147 : decode M_X4_wantsOf.2.1 147 = .ok (.getfield 28, 3) := by decide +kernel
theorem dX4_wantsOf_150 : decode M_X4_wantsOf.2.1 150 = .ok (.aload_n 0, 1) := by decide +kernel
theorem dX4_wantsOf_151 : decode M_X4_wantsOf.2.1 151 = .ok (.getfield 22, 3) := by decide +kernel
theorem dX4_wantsOf_154 : decode M_X4_wantsOf.2.1 154 = .ok (.iload_n 1, 1) := by decide +kernel
theorem dX4_wantsOf_155 : decode M_X4_wantsOf.2.1 155 = .ok (.iaload, 1) := by decide +kernel
theorem dX4_wantsOf_156 : decode M_X4_wantsOf.2.1 156 = .ok (.iaload, 1) := by decide +kernel
theorem dX4_wantsOf_157 : decode M_X4_wantsOf.2.1 157 = .ok (.goto 4, 3) := by decide +kernel
theorem dX4_wantsOf_160 : decode M_X4_wantsOf.2.1 160 = .ok (.iload_n 3, 1) := by decide +kernel
theorem dX4_wantsOf_161 : decode M_X4_wantsOf.2.1 161 = .ok (.ireturn, 1) := by decide +kernel
theorem dX4_wantsOf_162 : decode M_X4_wantsOf.2.1 162 = .ok (.iload 5, 2) := by decide +kernel
theorem dX4_wantsOf_164 : decode M_X4_wantsOf.2.1 164 = .ok (.ireturn, 1) := by decide +kernel
theorem dX4_wantsOf_165 : decode M_X4_wantsOf.2.1 165 = .ok (.iload 6, 2) := by decide +kernel
theorem dX4_wantsOf_167 : decode M_X4_wantsOf.2.1 167 = .ok (.iconst 2, 1) := by decide +kernel
theorem dX4_wantsOf_168 : decode M_X4_wantsOf.2.1 168 = .ok (.irem, 1) := by decide +kernel
theorem dX4_wantsOf_169 : decode M_X4_wantsOf.2.1 169 = .ok (.ifCond .ne 8, 3) := by decide +kernel
theorem dX4_wantsOf_172 : decode M_X4_wantsOf.2.1 172 = .ok (.iload 4, 2) := by decide +kernel
theorem dX4_wantsOf_174 : decode M_X4_wantsOf.2.1 174 = .ok (.goto 5, 3) := by decide +kernel
theorem dX4_wantsOf_177 : decode M_X4_wantsOf.2.1 177 = .ok (.bipush (-4), 2) := by decide +kernel
theorem dX4_wantsOf_179 : decode M_X4_wantsOf.2.1 179 = .ok (.ireturn, 1) := by decide +kernel
theorem dX4_wantsOf_180 : decode M_X4_wantsOf.2.1 180 = .ok (.aload_n 0, 1) := by decide +kernel
theorem dX4_wantsOf_181 : decode M_X4_wantsOf.2.1 181 = .ok (.getfield 22, 3) := by decide +kernel
theorem dX4_wantsOf_184 : decode M_X4_wantsOf.2.1 184 = .ok (.iload_n 1, 1) := by decide +kernel
theorem dX4_wantsOf_185 : decode M_X4_wantsOf.2.1 185 = .ok (.iaload, 1) := by decide +kernel
theorem dX4_wantsOf_186 : decode M_X4_wantsOf.2.1 186 = .ok (.ifCond .lt 17, 3) := by decide +kernel
theorem dX4_wantsOf_189 : decode M_X4_wantsOf.2.1 189 = .ok (.aload_n 0, 1) := by decide +kernel
theorem dX4_wantsOf_190 : decode M_X4_wantsOf.2.1 190 = .ok (.getfield 28, 3) := by decide +kernel
theorem dX4_wantsOf_193 : decode M_X4_wantsOf.2.1 193 = .ok (.aload_n 0, 1) := by decide +kernel
theorem dX4_wantsOf_194 : decode M_X4_wantsOf.2.1 194 = .ok (.getfield 22, 3) := by decide +kernel
theorem dX4_wantsOf_197 : decode M_X4_wantsOf.2.1 197 = .ok (.iload_n 1, 1) := by decide +kernel
theorem dX4_wantsOf_198 : decode M_X4_wantsOf.2.1 198 = .ok (.iaload, 1) := by decide +kernel
theorem dX4_wantsOf_199 : decode M_X4_wantsOf.2.1 199 = .ok (.iaload, 1) := by decide +kernel
theorem dX4_wantsOf_200 : decode M_X4_wantsOf.2.1 200 = .ok (.goto 5, 3) := by decide +kernel
theorem dX4_wantsOf_203 : decode M_X4_wantsOf.2.1 203 = .ok (.iload 5, 2) := by decide +kernel
theorem dX4_wantsOf_205 : decode M_X4_wantsOf.2.1 205 = .ok (.ireturn, 1) := by decide +kernel
theorem dX4_wantsOf_206 : decode M_X4_wantsOf.2.1 206 = .ok (.iload_n 3, 1) := by decide +kernel
theorem dX4_wantsOf_207 : decode M_X4_wantsOf.2.1 207 = .ok (.ireturn, 1) := by decide +kernel
theorem hv_X4_99 : a_okV RX4 M_X4_nearestOf 99 := ⟨a_in 1087 (by decide +kernel) rfl, a_in 1089 (by decide +kernel) rfl, a_in 42 (by decide +kernel) rfl⟩
theorem hv_X4_103 : a_okV RX4 M_X4_richestOf 103 := ⟨a_in 1094 (by decide +kernel) rfl, a_in 1096 (by decide +kernel) rfl, a_in 43 (by decide +kernel) rfl⟩
theorem hs_X4_19 : a_fs RX4 19 3 4 := ⟨RX4, TX4, 37, rfl, tin_X4, by decide, a_in 869 (by decide +kernel) rfl⟩
theorem hs_X4_7 : a_fs RX4 7 3 1 := ⟨RX4, TX4, 37, rfl, tin_X4, by decide, a_in 866 (by decide +kernel) rfl⟩
theorem hs_X4_13 : a_fs RX4 13 3 2 := ⟨RX4, TX4, 37, rfl, tin_X4, by decide, a_in 867 (by decide +kernel) rfl⟩
theorem hs_X4_22 : a_fs RX4 22 3 5 := ⟨RX4, TX4, 37, rfl, tin_X4, by decide, a_in 870 (by decide +kernel) rfl⟩
def c_X4_wantsOf_38 (a0 : Nat) (a1 : Int32) (a2 : Int32) (b3 : Int32) (b4 : Int32) (s0 : Int32) (w : aW) : Option (Int32 × aW) :=
  (gR 3 w a0 4).bind fun r11 =>
  (gA w r11 a1).bind fun x12 =>
  (gR 3 w a0 1).bind fun r13 =>
  (gA w r13 a1).bind fun x14 =>
  if x14 = (1 : Int32) then
    (gR 3 w a0 2).bind fun r16 =>
    (gA w r16 a1).bind fun x17 =>
    if (x17 + (2 : Int32)) = 0 then none else
    if ¬ (a2 - a2 / (x17 + (2 : Int32)) * (x17 + (2 : Int32))) = (0 : Int32) then
      some ((-4 : Int32), w)
    else
      some (b3, w)
  else
    if x14 = (2 : Int32) then
      (gR 3 w a0 2).bind fun r20 =>
      (gA w r20 a1).bind fun x21 =>
      if x12 < x21 then
        some ((-4 : Int32), w)
      else
        some (b3, w)
    else
      if x14 = (3 : Int32) then
        some (b4, w)
      else
        if x14 = (4 : Int32) then
          (gR 3 w a0 5).bind fun r24 =>
          (gA w r24 a1).bind fun x25 =>
          if x25 < (0 : Int32) then
            some (b3, w)
          else
            (gR 3 w a0 8).bind fun r26 =>
            (gR 3 w a0 5).bind fun r27 =>
            (gA w r27 a1).bind fun x28 =>
            (gA w r26 x28).bind fun x29 =>
            some (x29, w)
        else
          if x14 = (5 : Int32) then
            some (s0, w)
          else
            if x14 = (6 : Int32) then
              if ¬ (x12 - x12 / (2 : Int32) * (2 : Int32)) = (0 : Int32) then
                some ((-4 : Int32), w)
              else
                some (b4, w)
            else
              if x14 = (7 : Int32) then
                (gR 3 w a0 5).bind fun r33 =>
                (gA w r33 a1).bind fun x34 =>
                if x34 < (0 : Int32) then
                  some (s0, w)
                else
                  (gR 3 w a0 8).bind fun r35 =>
                  (gR 3 w a0 5).bind fun r36 =>
                  (gA w r36 a1).bind fun x37 =>
                  (gA w r35 x37).bind fun x38 =>
                  some (x38, w)
              else
                some (b3, w)
theorem t_X4_wantsOf_38 (a0 : Nat) (a1 : Int32) (a2 : Int32) (b3 : Int32) (b4 : Int32) (s0 : Int32) (w : aW) : Ev rvI M_X4_wantsOf 38 [some (.ref a0), some (.int a1), some (.int a2), some (.int b3), some (.int b4), none, none] [.int s0] w (c_X4_wantsOf_38 a0 a1 a2 b3 b4 s0 w) := by
  unfold c_X4_wantsOf_38
  refine e_istore (L' := [some (.ref a0), some (.int a1), some (.int a2), some (.int b3), some (.int b4), some (.int s0), none]) (pc := 38) dX4_wantsOf_38 (by decide) rfl ?_
  refine e_aload_n (pc := 40) dX4_wantsOf_40 rfl rfl ?_
  refine e_getR (pc := 41) dX4_wantsOf_41 hs_X4_19 (fun r11 => ?_)
  refine e_iload_n (pc := 44) dX4_wantsOf_44 rfl rfl ?_
  refine e_iald (pc := 45) dX4_wantsOf_45 (fun x12 => ?_)
  refine e_istore (L' := [some (.ref a0), some (.int a1), some (.int a2), some (.int b3), some (.int b4), some (.int s0), some (.int x12)]) (pc := 46) dX4_wantsOf_46 (by decide) rfl ?_
  refine e_aload_n (pc := 48) dX4_wantsOf_48 rfl rfl ?_
  refine e_getR (pc := 49) dX4_wantsOf_49 hs_X4_7 (fun r13 => ?_)
  refine e_iload_n (pc := 52) dX4_wantsOf_52 rfl rfl ?_
  refine e_iald (pc := 53) dX4_wantsOf_53 (fun x14 => ?_)
  refine e_ite (fun h15 => ?_) (fun h15 => ?_)
  · refine e_tabIn (pc := 54) (v := 1) (j := 1) (tgt := 96) dX4_wantsOf_54 h15 rfl (by decide) (by decide) rfl (by decide) ?_
    refine e_iload_n (pc := 96) dX4_wantsOf_96 rfl rfl ?_
    refine e_aload_n (pc := 97) dX4_wantsOf_97 rfl rfl ?_
    refine e_getR (pc := 98) dX4_wantsOf_98 hs_X4_13 (fun r16 => ?_)
    refine e_iload_n (pc := 101) dX4_wantsOf_101 rfl rfl ?_
    refine e_iald (pc := 102) dX4_wantsOf_102 (fun x17 => ?_)
    refine e_iconst (pc := 103) dX4_wantsOf_103 kc_2 ?_
    refine e_iadd (pc := 104) dX4_wantsOf_104 ?_
    refine e_chk (fun h18 => ?_)
    refine e_irem (pc := 105) dX4_wantsOf_105 h18 ?_
    refine e_if_ne (pc := 106) (tgt := 113) dX4_wantsOf_106 (by decide) (fun _ => ?_) (fun _ => ?_)
    · refine e_bipush (pc := 113) dX4_wantsOf_113 kb_m4 ?_
      exact e_iret (pc := 115) dX4_wantsOf_115 rfl rfl
    · refine e_iload_n (pc := 109) dX4_wantsOf_109 rfl rfl ?_
      refine e_goto (pc := 110) (tgt := 115) dX4_wantsOf_110 (by decide) ?_
      exact e_iret (pc := 115) dX4_wantsOf_115 rfl rfl
  · refine e_ite (fun h19 => ?_) (fun h19 => ?_)
    · refine e_tabIn (pc := 54) (v := 2) (j := 2) (tgt := 116) dX4_wantsOf_54 h19 rfl (by decide) (by decide) rfl (by decide) ?_
      refine e_iload (pc := 116) dX4_wantsOf_116 rfl ?_
      refine e_aload_n (pc := 118) dX4_wantsOf_118 rfl rfl ?_
      refine e_getR (pc := 119) dX4_wantsOf_119 hs_X4_13 (fun r20 => ?_)
      refine e_iload_n (pc := 122) dX4_wantsOf_122 rfl rfl ?_
      refine e_iald (pc := 123) dX4_wantsOf_123 (fun x21 => ?_)
      refine e_icmp_lt (pc := 124) (tgt := 131) dX4_wantsOf_124 (by decide) (fun _ => ?_) (fun _ => ?_)
      · refine e_bipush (pc := 131) dX4_wantsOf_131 kb_m4 ?_
        exact e_iret (pc := 133) dX4_wantsOf_133 rfl rfl
      · refine e_iload_n (pc := 127) dX4_wantsOf_127 rfl rfl ?_
        refine e_goto (pc := 128) (tgt := 133) dX4_wantsOf_128 (by decide) ?_
        exact e_iret (pc := 133) dX4_wantsOf_133 rfl rfl
    · refine e_ite (fun h22 => ?_) (fun h22 => ?_)
      · refine e_tabIn (pc := 54) (v := 3) (j := 3) (tgt := 134) dX4_wantsOf_54 h22 rfl (by decide) (by decide) rfl (by decide) ?_
        refine e_iload (pc := 134) dX4_wantsOf_134 rfl ?_
        exact e_iret (pc := 136) dX4_wantsOf_136 rfl rfl
      · refine e_ite (fun h23 => ?_) (fun h23 => ?_)
        · refine e_tabIn (pc := 54) (v := 4) (j := 4) (tgt := 137) dX4_wantsOf_54 h23 rfl (by decide) (by decide) rfl (by decide) ?_
          refine e_aload_n (pc := 137) dX4_wantsOf_137 rfl rfl ?_
          refine e_getR (pc := 138) dX4_wantsOf_138 hs_X4_22 (fun r24 => ?_)
          refine e_iload_n (pc := 141) dX4_wantsOf_141 rfl rfl ?_
          refine e_iald (pc := 142) dX4_wantsOf_142 (fun x25 => ?_)
          refine e_if_lt (pc := 143) (tgt := 160) dX4_wantsOf_143 (by decide) (fun _ => ?_) (fun _ => ?_)
          · refine e_iload_n (pc := 160) dX4_wantsOf_160 rfl rfl ?_
            exact e_iret (pc := 161) dX4_wantsOf_161 rfl rfl
          · refine e_aload_n (pc := 146) dX4_wantsOf_146 rfl rfl ?_
            refine e_getR (pc := 147) dX4_wantsOf_147 hs_X4_28 (fun r26 => ?_)
            refine e_aload_n (pc := 150) dX4_wantsOf_150 rfl rfl ?_
            refine e_getR (pc := 151) dX4_wantsOf_151 hs_X4_22 (fun r27 => ?_)
            refine e_iload_n (pc := 154) dX4_wantsOf_154 rfl rfl ?_
            refine e_iald (pc := 155) dX4_wantsOf_155 (fun x28 => ?_)
            refine e_iald (pc := 156) dX4_wantsOf_156 (fun x29 => ?_)
            refine e_goto (pc := 157) (tgt := 161) dX4_wantsOf_157 (by decide) ?_
            exact e_iret (pc := 161) dX4_wantsOf_161 rfl rfl
        · refine e_ite (fun h30 => ?_) (fun h30 => ?_)
          · refine e_tabIn (pc := 54) (v := 5) (j := 5) (tgt := 162) dX4_wantsOf_54 h30 rfl (by decide) (by decide) rfl (by decide) ?_
            refine e_iload (pc := 162) dX4_wantsOf_162 rfl ?_
            exact e_iret (pc := 164) dX4_wantsOf_164 rfl rfl
          · refine e_ite (fun h31 => ?_) (fun h31 => ?_)
            · refine e_tabIn (pc := 54) (v := 6) (j := 6) (tgt := 165) dX4_wantsOf_54 h31 rfl (by decide) (by decide) rfl (by decide) ?_
              refine e_iload (pc := 165) dX4_wantsOf_165 rfl ?_
              refine e_iconst (pc := 167) dX4_wantsOf_167 kc_2 ?_
              refine e_irem (pc := 168) dX4_wantsOf_168 (by decide) ?_
              refine e_if_ne (pc := 169) (tgt := 177) dX4_wantsOf_169 (by decide) (fun _ => ?_) (fun _ => ?_)
              · refine e_bipush (pc := 177) dX4_wantsOf_177 kb_m4 ?_
                exact e_iret (pc := 179) dX4_wantsOf_179 rfl rfl
              · refine e_iload (pc := 172) dX4_wantsOf_172 rfl ?_
                refine e_goto (pc := 174) (tgt := 179) dX4_wantsOf_174 (by decide) ?_
                exact e_iret (pc := 179) dX4_wantsOf_179 rfl rfl
            · refine e_ite (fun h32 => ?_) (fun h32 => ?_)
              · refine e_tabIn (pc := 54) (v := 7) (j := 7) (tgt := 180) dX4_wantsOf_54 h32 rfl (by decide) (by decide) rfl (by decide) ?_
                refine e_aload_n (pc := 180) dX4_wantsOf_180 rfl rfl ?_
                refine e_getR (pc := 181) dX4_wantsOf_181 hs_X4_22 (fun r33 => ?_)
                refine e_iload_n (pc := 184) dX4_wantsOf_184 rfl rfl ?_
                refine e_iald (pc := 185) dX4_wantsOf_185 (fun x34 => ?_)
                refine e_if_lt (pc := 186) (tgt := 203) dX4_wantsOf_186 (by decide) (fun _ => ?_) (fun _ => ?_)
                · refine e_iload (pc := 203) dX4_wantsOf_203 rfl ?_
                  exact e_iret (pc := 205) dX4_wantsOf_205 rfl rfl
                · refine e_aload_n (pc := 189) dX4_wantsOf_189 rfl rfl ?_
                  refine e_getR (pc := 190) dX4_wantsOf_190 hs_X4_28 (fun r35 => ?_)
                  refine e_aload_n (pc := 193) dX4_wantsOf_193 rfl rfl ?_
                  refine e_getR (pc := 194) dX4_wantsOf_194 hs_X4_22 (fun r36 => ?_)
                  refine e_iload_n (pc := 197) dX4_wantsOf_197 rfl rfl ?_
                  refine e_iald (pc := 198) dX4_wantsOf_198 (fun x37 => ?_)
                  refine e_iald (pc := 199) dX4_wantsOf_199 (fun x38 => ?_)
                  refine e_goto (pc := 200) (tgt := 205) dX4_wantsOf_200 (by decide) ?_
                  exact e_iret (pc := 205) dX4_wantsOf_205 rfl rfl
              · refine e_tabOut (pc := 54) (tgt := 206) dX4_wantsOf_54 (by have z0 := lv_neT h15 (show (1 : Int32).toInt = 1 from rfl); have z1 := lv_neT h19 (show (2 : Int32).toInt = 2 from rfl); have z2 := lv_neT h22 (show (3 : Int32).toInt = 3 from rfl); have z3 := lv_neT h23 (show (4 : Int32).toInt = 4 from rfl); have z4 := lv_neT h30 (show (5 : Int32).toInt = 5 from rfl); have z5 := lv_neT h31 (show (6 : Int32).toInt = 6 from rfl); have z6 := lv_neT h32 (show (7 : Int32).toInt = 7 from rfl); omega) (by decide) ?_
                refine e_iload_n (pc := 206) dX4_wantsOf_206 rfl rfl ?_
                exact e_iret (pc := 207) dX4_wantsOf_207 rfl rfl
def f_X4_wantsOf (a0 : Nat) (a1 : Int32) (a2 : Int32) (w : aW) : Option (Int32 × aW) :=
  (gR 3 w a0 8).bind fun r1 =>
  cV 3 w a0 (bk (f_X4_nearestOf a0 a1 w) fun x3 w2 =>
  (gA w2 r1 x3).bind fun x4 =>
  (gR 3 w2 a0 8).bind fun r5 =>
  cV 3 w2 a0 (bk (f_X4_richestOf a0 w2) fun x7 w6 =>
  (gA w6 r5 x7).bind fun x8 =>
  (gR 3 w6 a0 3).bind fun r9 =>
  (gA w6 r9 a1).bind fun x10 =>
  if x10 < x4 then
    c_X4_wantsOf_38 a0 a1 a2 x4 x8 (0 : Int32) w6
  else
    c_X4_wantsOf_38 a0 a1 a2 x4 x8 (15 : Int32) w6))
theorem s_X4_wantsOf (a0 : Nat) (a1 : Int32) (a2 : Int32) (w : aW) : Sp rvI M_X4_wantsOf [.ref a0, .int a1, .int a2] w (f_X4_wantsOf a0 a1 a2 w) := by
  refine e_entry [some (.ref a0), some (.int a1), some (.int a2), none, none, none, none] (by decide +kernel) (Nat.le_of_ble_eq_true rfl) (fun _ => rfl) ?_
  unfold f_X4_wantsOf
  refine e_aload_n (pc := 0) dX4_wantsOf_0 rfl rfl ?_
  refine e_getR (pc := 1) dX4_wantsOf_1 hs_X4_28 (fun r1 => ?_)
  refine e_aload_n (pc := 4) dX4_wantsOf_4 rfl rfl ?_
  refine e_iload_n (pc := 5) dX4_wantsOf_5 rfl rfl ?_
  refine e_callV (pc := 6) (av := [.int a1]) (S := [.ref r1]) (c0 := 3) rfl rfl ok_X4_nearestOf ⟨Nat.le_of_ble_eq_true rfl, Nat.le_of_ble_eq_true rfl⟩ hv_X4_99 dX4_wantsOf_6 (s_X4_nearestOf a0 a1 w) rfl rfl (Nat.le_of_ble_eq_true rfl) (fun x3 w2 => ?_)
  refine e_iald (pc := 9) dX4_wantsOf_9 (fun x4 => ?_)
  refine e_istore_n (L' := [some (.ref a0), some (.int a1), some (.int a2), some (.int x4), none, none, none]) (pc := 10) dX4_wantsOf_10 rfl (by decide) rfl ?_
  refine e_aload_n (pc := 11) dX4_wantsOf_11 rfl rfl ?_
  refine e_getR (pc := 12) dX4_wantsOf_12 hs_X4_28 (fun r5 => ?_)
  refine e_aload_n (pc := 15) dX4_wantsOf_15 rfl rfl ?_
  refine e_callV (pc := 16) (av := []) (S := [.ref r5]) (c0 := 3) rfl rfl ok_X4_richestOf ⟨Nat.le_of_ble_eq_true rfl, Nat.le_of_ble_eq_true rfl⟩ hv_X4_103 dX4_wantsOf_16 (s_X4_richestOf a0 w2) rfl rfl (Nat.le_of_ble_eq_true rfl) (fun x7 w6 => ?_)
  refine e_iald (pc := 19) dX4_wantsOf_19 (fun x8 => ?_)
  refine e_istore (L' := [some (.ref a0), some (.int a1), some (.int a2), some (.int x4), some (.int x8), none, none]) (pc := 20) dX4_wantsOf_20 (by decide) rfl ?_
  refine e_iload_n (pc := 22) dX4_wantsOf_22 rfl rfl ?_
  refine e_aload_n (pc := 23) dX4_wantsOf_23 rfl rfl ?_
  refine e_getR (pc := 24) dX4_wantsOf_24 hs_X4_16 (fun r9 => ?_)
  refine e_iload_n (pc := 27) dX4_wantsOf_27 rfl rfl ?_
  refine e_iald (pc := 28) dX4_wantsOf_28 (fun x10 => ?_)
  refine e_icmp_gt (pc := 29) (tgt := 37) dX4_wantsOf_29 (by decide) (fun _ => ?_) (fun _ => ?_)
  · refine e_iconst (pc := 37) dX4_wantsOf_37 kc_0 ?_
    exact t_X4_wantsOf_38 a0 a1 a2 x4 x8 (0 : Int32) w6
  · refine e_bipush (pc := 32) dX4_wantsOf_32 kb_15 ?_
    refine e_goto (pc := 34) (tgt := 38) dX4_wantsOf_34 (by decide) ?_
    exact t_X4_wantsOf_38 a0 a1 a2 x4 x8 (15 : Int32) w6
def M_X4_needOf : aM := (yX4_needOf, cX4_needOf, 3, (some .int), 0, 0)
theorem ok_X4_needOf : a_okM M_X4_needOf 1 := ⟨⟨by decide +kernel, by decide +kernel⟩, by decide +kernel, a_in 1124 (by decide +kernel) rfl, a_in 79 (by decide +kernel) rfl⟩
theorem dX4_needOf_0 : decode M_X4_needOf.2.1 0 = .ok (.aload_n 0, 1) := by decide +kernel
theorem dX4_needOf_1 : decode M_X4_needOf.2.1 1 = .ok (.getfield 13, 3) := by decide +kernel
theorem dX4_needOf_4 : decode M_X4_needOf.2.1 4 = .ok (.iload_n 1, 1) := by decide +kernel
theorem dX4_needOf_5 : decode M_X4_needOf.2.1 5 = .ok (.iaload, 1) := by decide +kernel
theorem dX4_needOf_6 : decode M_X4_needOf.2.1 6 = .ok (.istore_n 2, 1) := by decide +kernel
theorem dX4_needOf_7 : decode M_X4_needOf.2.1 7 = .ok (.aload_n 0, 1) := by decide +kernel
theorem dX4_needOf_8 : decode M_X4_needOf.2.1 8 = .ok (.getfield 7, 3) := by decide +kernel
theorem dX4_needOf_11 : decode M_X4_needOf.2.1 11 = .ok (.iload_n 1, 1) := by decide +kernel
theorem dX4_needOf_12 : decode M_X4_needOf.2.1 12 = .ok (.iaload, 1) := by decide +kernel
theorem dX4_needOf_13 : decode M_X4_needOf.2.1 13 = .ok (.tableswitch 67 1 7 #[43, 45, 49, 53, 55, 58, 64], 43) := by decide +kernel
theorem dX4_needOf_56 : decode M_X4_needOf.2.1 56 = .ok (.iconst 1, 1) := by decide +kernel
theorem dX4_needOf_57 : decode M_X4_needOf.2.1 57 = .ok (.ireturn, 1) := by decide +kernel
theorem dX4_needOf_58 : decode M_X4_needOf.2.1 58 = .ok (.iconst 2, 1) := by decide +kernel
theorem dX4_needOf_59 : decode M_X4_needOf.2.1 59 = .ok (.iload_n 2, 1) := by decide +kernel
theorem dX4_needOf_60 : decode M_X4_needOf.2.1 60 = .ok (.iadd, 1) := by decide +kernel
theorem dX4_needOf_61 : decode M_X4_needOf.2.1 61 = .ok (.ireturn, 1) := by decide +kernel
theorem dX4_needOf_62 : decode M_X4_needOf.2.1 62 = .ok (.iconst 1, 1) := by decide +kernel
theorem dX4_needOf_63 : decode M_X4_needOf.2.1 63 = .ok (.iload_n 2, 1) := by decide +kernel
theorem dX4_needOf_64 : decode M_X4_needOf.2.1 64 = .ok (.iadd, 1) := by decide +kernel
theorem dX4_needOf_65 : decode M_X4_needOf.2.1 65 = .ok (.ireturn, 1) := by decide +kernel
theorem dX4_needOf_66 : decode M_X4_needOf.2.1 66 = .ok (.iconst 3, 1) := by decide +kernel
theorem dX4_needOf_67 : decode M_X4_needOf.2.1 67 = .ok (.ireturn, 1) := by decide +kernel
theorem dX4_needOf_68 : decode M_X4_needOf.2.1 68 = .ok (.bipush 6, 2) := by decide +kernel
theorem dX4_needOf_70 : decode M_X4_needOf.2.1 70 = .ok (.ireturn, 1) := by decide +kernel
theorem dX4_needOf_71 : decode M_X4_needOf.2.1 71 = .ok (.iconst 1, 1) := by decide +kernel
theorem dX4_needOf_72 : decode M_X4_needOf.2.1 72 = .ok (.iload_n 2, 1) := by decide +kernel
theorem dX4_needOf_73 : decode M_X4_needOf.2.1 73 = .ok (.iadd, 1) := by decide +kernel
theorem dX4_needOf_74 : decode M_X4_needOf.2.1 74 = .ok (.iconst 2, 1) := by decide +kernel
theorem dX4_needOf_75 : decode M_X4_needOf.2.1 75 = .ok (.idiv, 1) := by decide +kernel
theorem dX4_needOf_76 : decode M_X4_needOf.2.1 76 = .ok (.ireturn, 1) := by decide +kernel
theorem dX4_needOf_77 : decode M_X4_needOf.2.1 77 = .ok (.bipush 7, 2) := by decide +kernel
theorem dX4_needOf_79 : decode M_X4_needOf.2.1 79 = .ok (.ireturn, 1) := by decide +kernel
theorem dX4_needOf_80 : decode M_X4_needOf.2.1 80 = .ok (.iconst 2, 1) := by decide +kernel
theorem dX4_needOf_81 : decode M_X4_needOf.2.1 81 = .ok (.ireturn, 1) := by decide +kernel
def f_X4_needOf (a0 : Nat) (a1 : Int32) (w : aW) : Option (Int32 × aW) :=
  (gR 3 w a0 2).bind fun r1 =>
  (gA w r1 a1).bind fun x2 =>
  (gR 3 w a0 1).bind fun r3 =>
  (gA w r3 a1).bind fun x4 =>
  if x4 = (1 : Int32) then
    some ((1 : Int32), w)
  else
    if x4 = (2 : Int32) then
      some (((2 : Int32) + x2), w)
    else
      if x4 = (3 : Int32) then
        some (((1 : Int32) + x2), w)
      else
        if x4 = (4 : Int32) then
          some ((3 : Int32), w)
        else
          if x4 = (5 : Int32) then
            some ((6 : Int32), w)
          else
            if x4 = (6 : Int32) then
              some ((((1 : Int32) + x2) / (2 : Int32)), w)
            else
              if x4 = (7 : Int32) then
                some ((7 : Int32), w)
              else
                some ((2 : Int32), w)
theorem s_X4_needOf (a0 : Nat) (a1 : Int32) (w : aW) : Sp rvI M_X4_needOf [.ref a0, .int a1] w (f_X4_needOf a0 a1 w) := by
  refine e_entry [some (.ref a0), some (.int a1), none] (by decide +kernel) (Nat.le_of_ble_eq_true rfl) (fun _ => rfl) ?_
  unfold f_X4_needOf
  refine e_aload_n (pc := 0) dX4_needOf_0 rfl rfl ?_
  refine e_getR (pc := 1) dX4_needOf_1 hs_X4_13 (fun r1 => ?_)
  refine e_iload_n (pc := 4) dX4_needOf_4 rfl rfl ?_
  refine e_iald (pc := 5) dX4_needOf_5 (fun x2 => ?_)
  refine e_istore_n (L' := [some (.ref a0), some (.int a1), some (.int x2)]) (pc := 6) dX4_needOf_6 rfl (by decide) rfl ?_
  refine e_aload_n (pc := 7) dX4_needOf_7 rfl rfl ?_
  refine e_getR (pc := 8) dX4_needOf_8 hs_X4_7 (fun r3 => ?_)
  refine e_iload_n (pc := 11) dX4_needOf_11 rfl rfl ?_
  refine e_iald (pc := 12) dX4_needOf_12 (fun x4 => ?_)
  refine e_ite (fun h5 => ?_) (fun h5 => ?_)
  · refine e_tabIn (pc := 13) (v := 1) (j := 1) (tgt := 56) dX4_needOf_13 h5 rfl (by decide) (by decide) rfl (by decide) ?_
    refine e_iconst (pc := 56) dX4_needOf_56 kc_1 ?_
    exact e_iret (pc := 57) dX4_needOf_57 rfl rfl
  · refine e_ite (fun h6 => ?_) (fun h6 => ?_)
    · refine e_tabIn (pc := 13) (v := 2) (j := 2) (tgt := 58) dX4_needOf_13 h6 rfl (by decide) (by decide) rfl (by decide) ?_
      refine e_iconst (pc := 58) dX4_needOf_58 kc_2 ?_
      refine e_iload_n (pc := 59) dX4_needOf_59 rfl rfl ?_
      refine e_iadd (pc := 60) dX4_needOf_60 ?_
      exact e_iret (pc := 61) dX4_needOf_61 rfl rfl
    · refine e_ite (fun h7 => ?_) (fun h7 => ?_)
      · refine e_tabIn (pc := 13) (v := 3) (j := 3) (tgt := 62) dX4_needOf_13 h7 rfl (by decide) (by decide) rfl (by decide) ?_
        refine e_iconst (pc := 62) dX4_needOf_62 kc_1 ?_
        refine e_iload_n (pc := 63) dX4_needOf_63 rfl rfl ?_
        refine e_iadd (pc := 64) dX4_needOf_64 ?_
        exact e_iret (pc := 65) dX4_needOf_65 rfl rfl
      · refine e_ite (fun h8 => ?_) (fun h8 => ?_)
        · refine e_tabIn (pc := 13) (v := 4) (j := 4) (tgt := 66) dX4_needOf_13 h8 rfl (by decide) (by decide) rfl (by decide) ?_
          refine e_iconst (pc := 66) dX4_needOf_66 kc_3 ?_
          exact e_iret (pc := 67) dX4_needOf_67 rfl rfl
        · refine e_ite (fun h9 => ?_) (fun h9 => ?_)
          · refine e_tabIn (pc := 13) (v := 5) (j := 5) (tgt := 68) dX4_needOf_13 h9 rfl (by decide) (by decide) rfl (by decide) ?_
            refine e_bipush (pc := 68) dX4_needOf_68 kb_6 ?_
            exact e_iret (pc := 70) dX4_needOf_70 rfl rfl
          · refine e_ite (fun h10 => ?_) (fun h10 => ?_)
            · refine e_tabIn (pc := 13) (v := 6) (j := 6) (tgt := 71) dX4_needOf_13 h10 rfl (by decide) (by decide) rfl (by decide) ?_
              refine e_iconst (pc := 71) dX4_needOf_71 kc_1 ?_
              refine e_iload_n (pc := 72) dX4_needOf_72 rfl rfl ?_
              refine e_iadd (pc := 73) dX4_needOf_73 ?_
              refine e_iconst (pc := 74) dX4_needOf_74 kc_2 ?_
              refine e_idiv (pc := 75) dX4_needOf_75 (by decide) ?_
              exact e_iret (pc := 76) dX4_needOf_76 rfl rfl
            · refine e_ite (fun h11 => ?_) (fun h11 => ?_)
              · refine e_tabIn (pc := 13) (v := 7) (j := 7) (tgt := 77) dX4_needOf_13 h11 rfl (by decide) (by decide) rfl (by decide) ?_
                refine e_bipush (pc := 77) dX4_needOf_77 kb_7 ?_
                exact e_iret (pc := 79) dX4_needOf_79 rfl rfl
              · refine e_tabOut (pc := 13) (tgt := 80) dX4_needOf_13 (by have z0 := lv_neT h5 (show (1 : Int32).toInt = 1 from rfl); have z1 := lv_neT h6 (show (2 : Int32).toInt = 2 from rfl); have z2 := lv_neT h7 (show (3 : Int32).toInt = 3 from rfl); have z3 := lv_neT h8 (show (4 : Int32).toInt = 4 from rfl); have z4 := lv_neT h9 (show (5 : Int32).toInt = 5 from rfl); have z5 := lv_neT h10 (show (6 : Int32).toInt = 6 from rfl); have z6 := lv_neT h11 (show (7 : Int32).toInt = 7 from rfl); omega) (by decide) ?_
                refine e_iconst (pc := 80) dX4_needOf_80 kc_2 ?_
                exact e_iret (pc := 81) dX4_needOf_81 rfl rfl
def M_X4_workOf : aM := (yX4_workOf, cX4_workOf, 3, (some .int), 0, 0)
theorem ok_X4_workOf : a_okM M_X4_workOf 1 := ⟨⟨by decide +kernel, by decide +kernel⟩, by decide +kernel, a_in 1113 (by decide +kernel) rfl, a_in 79 (by decide +kernel) rfl⟩
theorem dX4_workOf_0 : decode M_X4_workOf.2.1 0 = .ok (.aload_n 0, 1) := by decide +kernel
theorem dX4_workOf_1 : decode M_X4_workOf.2.1 1 = .ok (.getfield 13, 3) := by decide +kernel
theorem dX4_workOf_4 : decode M_X4_workOf.2.1 4 = .ok (.iload_n 1, 1) := by decide +kernel
theorem dX4_workOf_5 : decode M_X4_workOf.2.1 5 = .ok (.iaload, 1) := by decide +kernel
theorem dX4_workOf_6 : decode M_X4_workOf.2.1 6 = .ok (.istore_n 2, 1) := by decide +kernel
theorem dX4_workOf_7 : decode M_X4_workOf.2.1 7 = .ok (.aload_n 0, 1) := by decide +kernel
theorem dX4_workOf_8 : decode M_X4_workOf.2.1 8 = .ok (.getfield 7, 3) := by decide +kernel
theorem dX4_workOf_11 : decode M_X4_workOf.2.1 11 = .ok (.iload_n 1, 1) := by decide +kernel
theorem dX4_workOf_12 : decode M_X4_workOf.2.1 12 = .ok (.iaload, 1) := by decide +kernel
theorem dX4_workOf_13 : decode M_X4_workOf.2.1 13 = .ok (.tableswitch 63 0 6 #[43, 63, 45, 49, 55, 63, 57], 43) := by decide +kernel
theorem dX4_workOf_56 : decode M_X4_workOf.2.1 56 = .ok (.iconst 3, 1) := by decide +kernel
theorem dX4_workOf_57 : decode M_X4_workOf.2.1 57 = .ok (.ireturn, 1) := by decide +kernel
theorem dX4_workOf_58 : decode M_X4_workOf.2.1 58 = .ok (.iconst 2, 1) := by decide +kernel
theorem dX4_workOf_59 : decode M_X4_workOf.2.1 59 = .ok (.iload_n 2, 1) := by decide +kernel
theorem dX4_workOf_60 : decode M_X4_workOf.2.1 60 = .ok (.imul, 1) := by decide +kernel
theorem dX4_workOf_61 : decode M_X4_workOf.2.1 61 = .ok (.ireturn, 1) := by decide +kernel
theorem dX4_workOf_62 : decode M_X4_workOf.2.1 62 = .ok (.iconst 2, 1) := by decide +kernel
theorem dX4_workOf_63 : decode M_X4_workOf.2.1 63 = .ok (.iload_n 2, 1) := by decide +kernel
theorem dX4_workOf_64 : decode M_X4_workOf.2.1 64 = .ok (.imul, 1) := by decide +kernel
theorem dX4_workOf_65 : decode M_X4_workOf.2.1 65 = .ok (.iconst 2, 1) := by decide +kernel
theorem dX4_workOf_66 : decode M_X4_workOf.2.1 66 = .ok (.iadd, 1) := by decide +kernel
theorem dX4_workOf_67 : decode M_X4_workOf.2.1 67 = .ok (.ireturn, 1) := by decide +kernel
theorem dX4_workOf_68 : decode M_X4_workOf.2.1 68 = .ok (.iconst 1, 1) := by decide +kernel
theorem dX4_workOf_69 : decode M_X4_workOf.2.1 69 = .ok (.ireturn, 1) := by decide +kernel
theorem dX4_workOf_70 : decode M_X4_workOf.2.1 70 = .ok (.iconst 2, 1) := by decide +kernel
theorem dX4_workOf_71 : decode M_X4_workOf.2.1 71 = .ok (.iload_n 2, 1) := by decide +kernel
theorem dX4_workOf_72 : decode M_X4_workOf.2.1 72 = .ok (.imul, 1) := by decide +kernel
theorem dX4_workOf_73 : decode M_X4_workOf.2.1 73 = .ok (.iconst 1, 1) := by decide +kernel
theorem dX4_workOf_74 : decode M_X4_workOf.2.1 74 = .ok (.iadd, 1) := by decide +kernel
theorem dX4_workOf_75 : decode M_X4_workOf.2.1 75 = .ok (.ireturn, 1) := by decide +kernel
theorem dX4_workOf_76 : decode M_X4_workOf.2.1 76 = .ok (.iconst 0, 1) := by decide +kernel
theorem dX4_workOf_77 : decode M_X4_workOf.2.1 77 = .ok (.ireturn, 1) := by decide +kernel
def f_X4_workOf (a0 : Nat) (a1 : Int32) (w : aW) : Option (Int32 × aW) :=
  (gR 3 w a0 2).bind fun r1 =>
  (gA w r1 a1).bind fun x2 =>
  (gR 3 w a0 1).bind fun r3 =>
  (gA w r3 a1).bind fun x4 =>
  if x4 = (0 : Int32) then
    some ((3 : Int32), w)
  else
    if x4 = (1 : Int32) then
      some ((0 : Int32), w)
    else
      if x4 = (2 : Int32) then
        some (((2 : Int32) * x2), w)
      else
        if x4 = (3 : Int32) then
          some ((((2 : Int32) * x2) + (2 : Int32)), w)
        else
          if x4 = (4 : Int32) then
            some ((1 : Int32), w)
          else
            if x4 = (5 : Int32) then
              some ((0 : Int32), w)
            else
              if x4 = (6 : Int32) then
                some ((((2 : Int32) * x2) + (1 : Int32)), w)
              else
                some ((0 : Int32), w)
theorem s_X4_workOf (a0 : Nat) (a1 : Int32) (w : aW) : Sp rvI M_X4_workOf [.ref a0, .int a1] w (f_X4_workOf a0 a1 w) := by
  refine e_entry [some (.ref a0), some (.int a1), none] (by decide +kernel) (Nat.le_of_ble_eq_true rfl) (fun _ => rfl) ?_
  unfold f_X4_workOf
  refine e_aload_n (pc := 0) dX4_workOf_0 rfl rfl ?_
  refine e_getR (pc := 1) dX4_workOf_1 hs_X4_13 (fun r1 => ?_)
  refine e_iload_n (pc := 4) dX4_workOf_4 rfl rfl ?_
  refine e_iald (pc := 5) dX4_workOf_5 (fun x2 => ?_)
  refine e_istore_n (L' := [some (.ref a0), some (.int a1), some (.int x2)]) (pc := 6) dX4_workOf_6 rfl (by decide) rfl ?_
  refine e_aload_n (pc := 7) dX4_workOf_7 rfl rfl ?_
  refine e_getR (pc := 8) dX4_workOf_8 hs_X4_7 (fun r3 => ?_)
  refine e_iload_n (pc := 11) dX4_workOf_11 rfl rfl ?_
  refine e_iald (pc := 12) dX4_workOf_12 (fun x4 => ?_)
  refine e_ite (fun h5 => ?_) (fun h5 => ?_)
  · refine e_tabIn (pc := 13) (v := 0) (j := 0) (tgt := 56) dX4_workOf_13 h5 rfl (by decide) (by decide) rfl (by decide) ?_
    refine e_iconst (pc := 56) dX4_workOf_56 kc_3 ?_
    exact e_iret (pc := 57) dX4_workOf_57 rfl rfl
  · refine e_ite (fun h6 => ?_) (fun h6 => ?_)
    · refine e_tabIn (pc := 13) (v := 1) (j := 1) (tgt := 76) dX4_workOf_13 h6 rfl (by decide) (by decide) rfl (by decide) ?_
      refine e_iconst (pc := 76) dX4_workOf_76 kc_0 ?_
      exact e_iret (pc := 77) dX4_workOf_77 rfl rfl
    · refine e_ite (fun h7 => ?_) (fun h7 => ?_)
      · refine e_tabIn (pc := 13) (v := 2) (j := 2) (tgt := 58) dX4_workOf_13 h7 rfl (by decide) (by decide) rfl (by decide) ?_
        refine e_iconst (pc := 58) dX4_workOf_58 kc_2 ?_
        refine e_iload_n (pc := 59) dX4_workOf_59 rfl rfl ?_
        refine e_imul (pc := 60) dX4_workOf_60 ?_
        exact e_iret (pc := 61) dX4_workOf_61 rfl rfl
      · refine e_ite (fun h8 => ?_) (fun h8 => ?_)
        · refine e_tabIn (pc := 13) (v := 3) (j := 3) (tgt := 62) dX4_workOf_13 h8 rfl (by decide) (by decide) rfl (by decide) ?_
          refine e_iconst (pc := 62) dX4_workOf_62 kc_2 ?_
          refine e_iload_n (pc := 63) dX4_workOf_63 rfl rfl ?_
          refine e_imul (pc := 64) dX4_workOf_64 ?_
          refine e_iconst (pc := 65) dX4_workOf_65 kc_2 ?_
          refine e_iadd (pc := 66) dX4_workOf_66 ?_
          exact e_iret (pc := 67) dX4_workOf_67 rfl rfl
        · refine e_ite (fun h9 => ?_) (fun h9 => ?_)
          · refine e_tabIn (pc := 13) (v := 4) (j := 4) (tgt := 68) dX4_workOf_13 h9 rfl (by decide) (by decide) rfl (by decide) ?_
            refine e_iconst (pc := 68) dX4_workOf_68 kc_1 ?_
            exact e_iret (pc := 69) dX4_workOf_69 rfl rfl
          · refine e_ite (fun h10 => ?_) (fun h10 => ?_)
            · refine e_tabIn (pc := 13) (v := 5) (j := 5) (tgt := 76) dX4_workOf_13 h10 rfl (by decide) (by decide) rfl (by decide) ?_
              refine e_iconst (pc := 76) dX4_workOf_76 kc_0 ?_
              exact e_iret (pc := 77) dX4_workOf_77 rfl rfl
            · refine e_ite (fun h11 => ?_) (fun h11 => ?_)
              · refine e_tabIn (pc := 13) (v := 6) (j := 6) (tgt := 70) dX4_workOf_13 h11 rfl (by decide) (by decide) rfl (by decide) ?_
                refine e_iconst (pc := 70) dX4_workOf_70 kc_2 ?_
                refine e_iload_n (pc := 71) dX4_workOf_71 rfl rfl ?_
                refine e_imul (pc := 72) dX4_workOf_72 ?_
                refine e_iconst (pc := 73) dX4_workOf_73 kc_1 ?_
                refine e_iadd (pc := 74) dX4_workOf_74 ?_
                exact e_iret (pc := 75) dX4_workOf_75 rfl rfl
              · refine e_tabOut (pc := 13) (tgt := 76) dX4_workOf_13 (by have z0 := lv_neT h5 (show (0 : Int32).toInt = 0 from rfl); have z1 := lv_neT h6 (show (1 : Int32).toInt = 1 from rfl); have z2 := lv_neT h7 (show (2 : Int32).toInt = 2 from rfl); have z3 := lv_neT h8 (show (3 : Int32).toInt = 3 from rfl); have z4 := lv_neT h9 (show (4 : Int32).toInt = 4 from rfl); have z5 := lv_neT h10 (show (5 : Int32).toInt = 5 from rfl); have z6 := lv_neT h11 (show (6 : Int32).toInt = 6 from rfl); omega) (by decide) ?_
                refine e_iconst (pc := 76) dX4_workOf_76 kc_0 ?_
                exact e_iret (pc := 77) dX4_workOf_77 rfl rfl
