/-! the decompiled methods: each f_ is what its bytecode does to a world; each s_ ties it to the machine. Written by program (wip/gen/gen.py). -/
theorem kc_0 : Int32.ofInt (0) = (0 : Int32) := by decide
theorem kb_9 : (Int8.ofInt (9)).toInt32 = (9 : Int32) := by decide
theorem kc_5 : Int32.ofInt (5) = (5 : Int32) := by decide
theorem kc_1 : Int32.ofInt (1) = (1 : Int32) := by decide
theorem kb_7 : (Int8.ofInt (7)).toInt32 = (7 : Int32) := by decide
theorem kb_15 : (Int8.ofInt (15)).toInt32 = (15 : Int32) := by decide
theorem kc_m1 : Int32.ofInt (-1) = (-1 : Int32) := by decide
theorem kb_m4 : (Int8.ofInt (-4)).toInt32 = (-4 : Int32) := by decide
theorem kb_m2 : (Int8.ofInt (-2)).toInt32 = (-2 : Int32) := by decide
theorem kb_m3 : (Int8.ofInt (-3)).toInt32 = (-3 : Int32) := by decide
theorem kc_4 : Int32.ofInt (4) = (4 : Int32) := by decide
theorem kc_3 : Int32.ofInt (3) = (3 : Int32) := by decide
theorem ks_999 : (Int16.ofInt (999)).toInt32 = (999 : Int32) := by decide
theorem kb_16 : (Int8.ofInt (16)).toInt32 = (16 : Int32) := by decide
theorem kc_2 : Int32.ofInt (2) = (2 : Int32) := by decide
theorem kb_99 : (Int8.ofInt (99)).toInt32 = (99 : Int32) := by decide
theorem kb_8 : (Int8.ofInt (8)).toInt32 = (8 : Int32) := by decide
theorem kb_63 : (Int8.ofInt (63)).toInt32 = (63 : Int32) := by decide
theorem kb_60 : (Int8.ofInt (60)).toInt32 = (60 : Int32) := by decide
theorem kb_100 : (Int8.ofInt (100)).toInt32 = (100 : Int32) := by decide
theorem kb_m12 : (Int8.ofInt (-12)).toInt32 = (-12 : Int32) := by decide
theorem kb_m11 : (Int8.ofInt (-11)).toInt32 = (-11 : Int32) := by decide
theorem kb_m128 : (Int8.ofInt (-128)).toInt32 = (-128 : Int32) := by decide
theorem ks_m32768 : (Int16.ofInt (-32768)).toInt32 = (-32768 : Int32) := by decide
theorem kb_10 : (Int8.ofInt (10)).toInt32 = (10 : Int32) := by decide
theorem kb_48 : (Int8.ofInt (48)).toInt32 = (48 : Int32) := by decide
theorem kb_59 : (Int8.ofInt (59)).toInt32 = (59 : Int32) := by decide
theorem kb_57 : (Int8.ofInt (57)).toInt32 = (57 : Int32) := by decide
theorem ks_m1000 : (Int16.ofInt (-1000)).toInt32 = (-1000 : Int32) := by decide
theorem ks_m2000 : (Int16.ofInt (-2000)).toInt32 = (-2000 : Int32) := by decide
theorem kb_6 : (Int8.ofInt (6)).toInt32 = (6 : Int32) := by decide
theorem kb_20 : (Int8.ofInt (20)).toInt32 = (20 : Int32) := by decide
theorem kb_30 : (Int8.ofInt (30)).toInt32 = (30 : Int32) := by decide
theorem kb_12 : (Int8.ofInt (12)).toInt32 = (12 : Int32) := by decide
theorem ks_200 : (Int16.ofInt (200)).toInt32 = (200 : Int32) := by decide
theorem ks_12345 : (Int16.ofInt (12345)).toInt32 = (12345 : Int32) := by decide
theorem kb_m14 : (Int8.ofInt (-14)).toInt32 = (-14 : Int32) := by decide
theorem kb_m13 : (Int8.ofInt (-13)).toInt32 = (-13 : Int32) := by decide
theorem ks_m999 : (Int16.ofInt (-999)).toInt32 = (-999 : Int32) := by decide
theorem kb_98 : (Int8.ofInt (98)).toInt32 = (98 : Int32) := by decide
theorem kb_103 : (Int8.ofInt (103)).toInt32 = (103 : Int32) := by decide
theorem kb_112 : (Int8.ofInt (112)).toInt32 = (112 : Int32) := by decide
theorem kb_117 : (Int8.ofInt (117)).toInt32 = (117 : Int32) := by decide
theorem kb_61 : (Int8.ofInt (61)).toInt32 = (61 : Int32) := by decide
theorem kb_25 : (Int8.ofInt (25)).toInt32 = (25 : Int32) := by decide
theorem kb_m15 : (Int8.ofInt (-15)).toInt32 = (-15 : Int32) := by decide
def M_X0_becomeAs : aM := (yX0_becomeAs, cX0_becomeAs, 2, none, 1, 60)
theorem ok_X0_becomeAs : a_okM M_X0_becomeAs 1 := ⟨⟨by decide +kernel, by decide +kernel⟩, by decide +kernel, a_in 245 (by decide +kernel) rfl, a_in 77 (by decide +kernel) rfl⟩
theorem dX0_becomeAs_0 : decode M_X0_becomeAs.2.1 0 = .ok (.aload_n 0, 1) := by decide +kernel
theorem dX0_becomeAs_1 : decode M_X0_becomeAs.2.1 1 = .ok (.aload_n 1, 1) := by decide +kernel
theorem dX0_becomeAs_2 : decode M_X0_becomeAs.2.1 2 = .ok (.getfield 9, 3) := by decide +kernel
theorem dX0_becomeAs_5 : decode M_X0_becomeAs.2.1 5 = .ok (.putfield 9, 3) := by decide +kernel
theorem dX0_becomeAs_8 : decode M_X0_becomeAs.2.1 8 = .ok (.aload_n 0, 1) := by decide +kernel
theorem dX0_becomeAs_9 : decode M_X0_becomeAs.2.1 9 = .ok (.aload_n 1, 1) := by decide +kernel
theorem dX0_becomeAs_10 : decode M_X0_becomeAs.2.1 10 = .ok (.getfield 15, 3) := by decide +kernel
theorem dX0_becomeAs_13 : decode M_X0_becomeAs.2.1 13 = .ok (.putfield 15, 3) := by decide +kernel
theorem dX0_becomeAs_16 : decode M_X0_becomeAs.2.1 16 = .ok (.aload_n 0, 1) := by decide +kernel
theorem dX0_becomeAs_17 : decode M_X0_becomeAs.2.1 17 = .ok (.aload_n 1, 1) := by decide +kernel
theorem dX0_becomeAs_18 : decode M_X0_becomeAs.2.1 18 = .ok (.getfield 18, 3) := by decide +kernel
theorem dX0_becomeAs_21 : decode M_X0_becomeAs.2.1 21 = .ok (.putfield 18, 3) := by decide +kernel
theorem dX0_becomeAs_24 : decode M_X0_becomeAs.2.1 24 = .ok (.aload_n 0, 1) := by decide +kernel
theorem dX0_becomeAs_25 : decode M_X0_becomeAs.2.1 25 = .ok (.aload_n 1, 1) := by decide +kernel
theorem dX0_becomeAs_26 : decode M_X0_becomeAs.2.1 26 = .ok (.getfield 21, 3) := by decide +kernel
theorem dX0_becomeAs_29 : decode M_X0_becomeAs.2.1 29 = .ok (.putfield 21, 3) := by decide +kernel
theorem dX0_becomeAs_32 : decode M_X0_becomeAs.2.1 32 = .ok (.aload_n 1, 1) := by decide +kernel
theorem dX0_becomeAs_33 : decode M_X0_becomeAs.2.1 33 = .ok (.getfield 24, 3) := by decide +kernel
theorem dX0_becomeAs_36 : decode M_X0_becomeAs.2.1 36 = .ok (.iconst 0, 1) := by decide +kernel
theorem dX0_becomeAs_37 : decode M_X0_becomeAs.2.1 37 = .ok (.aload_n 0, 1) := by decide +kernel
theorem dX0_becomeAs_38 : decode M_X0_becomeAs.2.1 38 = .ok (.getfield 24, 3) := by decide +kernel
theorem dX0_becomeAs_41 : decode M_X0_becomeAs.2.1 41 = .ok (.iconst 0, 1) := by decide +kernel
theorem dX0_becomeAs_42 : decode M_X0_becomeAs.2.1 42 = .ok (.bipush 9, 2) := by decide +kernel
theorem dX0_becomeAs_44 : decode M_X0_becomeAs.2.1 44 = .ok (.invokestatic 52, 3) := by decide +kernel
theorem dX0_becomeAs_47 : decode M_X0_becomeAs.2.1 47 = .ok (.aload_n 1, 1) := by decide +kernel
theorem dX0_becomeAs_48 : decode M_X0_becomeAs.2.1 48 = .ok (.getfield 28, 3) := by decide +kernel
theorem dX0_becomeAs_51 : decode M_X0_becomeAs.2.1 51 = .ok (.iconst 0, 1) := by decide +kernel
theorem dX0_becomeAs_52 : decode M_X0_becomeAs.2.1 52 = .ok (.aload_n 0, 1) := by decide +kernel
theorem dX0_becomeAs_53 : decode M_X0_becomeAs.2.1 53 = .ok (.getfield 28, 3) := by decide +kernel
theorem dX0_becomeAs_56 : decode M_X0_becomeAs.2.1 56 = .ok (.iconst 0, 1) := by decide +kernel
theorem dX0_becomeAs_57 : decode M_X0_becomeAs.2.1 57 = .ok (.bipush 9, 2) := by decide +kernel
theorem dX0_becomeAs_59 : decode M_X0_becomeAs.2.1 59 = .ok (.invokestatic 52, 3) := by decide +kernel
theorem dX0_becomeAs_62 : decode M_X0_becomeAs.2.1 62 = .ok (.aload_n 1, 1) := by decide +kernel
theorem dX0_becomeAs_63 : decode M_X0_becomeAs.2.1 63 = .ok (.getfield 31, 3) := by decide +kernel
theorem dX0_becomeAs_66 : decode M_X0_becomeAs.2.1 66 = .ok (.iconst 0, 1) := by decide +kernel
theorem dX0_becomeAs_67 : decode M_X0_becomeAs.2.1 67 = .ok (.aload_n 0, 1) := by decide +kernel
theorem dX0_becomeAs_68 : decode M_X0_becomeAs.2.1 68 = .ok (.getfield 31, 3) := by decide +kernel
theorem dX0_becomeAs_71 : decode M_X0_becomeAs.2.1 71 = .ok (.iconst 0, 1) := by decide +kernel
theorem dX0_becomeAs_72 : decode M_X0_becomeAs.2.1 72 = .ok (.bipush 9, 2) := by decide +kernel
theorem dX0_becomeAs_74 : decode M_X0_becomeAs.2.1 74 = .ok (.invokestatic 52, 3) := by decide +kernel
theorem dX0_becomeAs_77 : decode M_X0_becomeAs.2.1 77 = .ok (.aload_n 1, 1) := by decide +kernel
theorem dX0_becomeAs_78 : decode M_X0_becomeAs.2.1 78 = .ok (.getfield 34, 3) := by decide +kernel
theorem dX0_becomeAs_81 : decode M_X0_becomeAs.2.1 81 = .ok (.iconst 0, 1) := by decide +kernel
theorem dX0_becomeAs_82 : decode M_X0_becomeAs.2.1 82 = .ok (.aload_n 0, 1) := by decide +kernel
theorem dX0_becomeAs_83 : decode M_X0_becomeAs.2.1 83 = .ok (.getfield 34, 3) := by decide +kernel
theorem dX0_becomeAs_86 : decode M_X0_becomeAs.2.1 86 = .ok (.iconst 0, 1) := by decide +kernel
theorem dX0_becomeAs_87 : decode M_X0_becomeAs.2.1 87 = .ok (.bipush 9, 2) := by decide +kernel
theorem dX0_becomeAs_89 : decode M_X0_becomeAs.2.1 89 = .ok (.invokestatic 52, 3) := by decide +kernel
theorem dX0_becomeAs_92 : decode M_X0_becomeAs.2.1 92 = .ok (.aload_n 1, 1) := by decide +kernel
theorem dX0_becomeAs_93 : decode M_X0_becomeAs.2.1 93 = .ok (.getfield 37, 3) := by decide +kernel
theorem dX0_becomeAs_96 : decode M_X0_becomeAs.2.1 96 = .ok (.iconst 0, 1) := by decide +kernel
theorem dX0_becomeAs_97 : decode M_X0_becomeAs.2.1 97 = .ok (.aload_n 0, 1) := by decide +kernel
theorem dX0_becomeAs_98 : decode M_X0_becomeAs.2.1 98 = .ok (.getfield 37, 3) := by decide +kernel
theorem dX0_becomeAs_101 : decode M_X0_becomeAs.2.1 101 = .ok (.iconst 0, 1) := by decide +kernel
theorem dX0_becomeAs_102 : decode M_X0_becomeAs.2.1 102 = .ok (.bipush 9, 2) := by decide +kernel
theorem dX0_becomeAs_104 : decode M_X0_becomeAs.2.1 104 = .ok (.invokestatic 52, 3) := by decide +kernel
theorem dX0_becomeAs_107 : decode M_X0_becomeAs.2.1 107 = .ok (.aload_n 1, 1) := by decide +kernel
theorem dX0_becomeAs_108 : decode M_X0_becomeAs.2.1 108 = .ok (.getfield 40, 3) := by decide +kernel
theorem dX0_becomeAs_111 : decode M_X0_becomeAs.2.1 111 = .ok (.iconst 0, 1) := by decide +kernel
theorem dX0_becomeAs_112 : decode M_X0_becomeAs.2.1 112 = .ok (.aload_n 0, 1) := by decide +kernel
theorem dX0_becomeAs_113 : decode M_X0_becomeAs.2.1 113 = .ok (.getfield 40, 3) := by decide +kernel
theorem dX0_becomeAs_116 : decode M_X0_becomeAs.2.1 116 = .ok (.iconst 0, 1) := by decide +kernel
theorem dX0_becomeAs_117 : decode M_X0_becomeAs.2.1 117 = .ok (.iconst 5, 1) := by decide +kernel
theorem dX0_becomeAs_118 : decode M_X0_becomeAs.2.1 118 = .ok (.invokestatic 52, 3) := by decide +kernel
theorem dX0_becomeAs_121 : decode M_X0_becomeAs.2.1 121 = .ok (.aload_n 1, 1) := by decide +kernel
theorem dX0_becomeAs_122 : decode M_X0_becomeAs.2.1 122 = .ok (.getfield 43, 3) := by decide +kernel
theorem dX0_becomeAs_125 : decode M_X0_becomeAs.2.1 125 = .ok (.iconst 0, 1) := by decide +kernel
theorem dX0_becomeAs_126 : decode M_X0_becomeAs.2.1 126 = .ok (.aload_n 0, 1) := by decide +kernel
theorem dX0_becomeAs_127 : decode M_X0_becomeAs.2.1 127 = .ok (.getfield 43, 3) := by decide +kernel
theorem dX0_becomeAs_130 : decode M_X0_becomeAs.2.1 130 = .ok (.iconst 0, 1) := by decide +kernel
theorem dX0_becomeAs_131 : decode M_X0_becomeAs.2.1 131 = .ok (.iconst 5, 1) := by decide +kernel
theorem dX0_becomeAs_132 : decode M_X0_becomeAs.2.1 132 = .ok (.invokestatic 52, 3) := by decide +kernel
theorem dX0_becomeAs_135 : decode M_X0_becomeAs.2.1 135 = .ok (.aload_n 1, 1) := by decide +kernel
theorem dX0_becomeAs_136 : decode M_X0_becomeAs.2.1 136 = .ok (.getfield 46, 3) := by decide +kernel
theorem dX0_becomeAs_139 : decode M_X0_becomeAs.2.1 139 = .ok (.iconst 0, 1) := by decide +kernel
theorem dX0_becomeAs_140 : decode M_X0_becomeAs.2.1 140 = .ok (.aload_n 0, 1) := by decide +kernel
theorem dX0_becomeAs_141 : decode M_X0_becomeAs.2.1 141 = .ok (.getfield 46, 3) := by decide +kernel
theorem dX0_becomeAs_144 : decode M_X0_becomeAs.2.1 144 = .ok (.iconst 0, 1) := by decide +kernel
theorem dX0_becomeAs_145 : decode M_X0_becomeAs.2.1 145 = .ok (.iconst 5, 1) := by decide +kernel
theorem dX0_becomeAs_146 : decode M_X0_becomeAs.2.1 146 = .ok (.invokestatic 52, 3) := by decide +kernel
theorem dX0_becomeAs_149 : decode M_X0_becomeAs.2.1 149 = .ok (.aload_n 1, 1) := by decide +kernel
theorem dX0_becomeAs_150 : decode M_X0_becomeAs.2.1 150 = .ok (.getfield 49, 3) := by decide +kernel
theorem dX0_becomeAs_153 : decode M_X0_becomeAs.2.1 153 = .ok (.iconst 0, 1) := by decide +kernel
theorem dX0_becomeAs_154 : decode M_X0_becomeAs.2.1 154 = .ok (.aload_n 0, 1) := by decide +kernel
theorem dX0_becomeAs_155 : decode M_X0_becomeAs.2.1 155 = .ok (.getfield 49, 3) := by decide +kernel
theorem dX0_becomeAs_158 : decode M_X0_becomeAs.2.1 158 = .ok (.iconst 0, 1) := by decide +kernel
theorem dX0_becomeAs_159 : decode M_X0_becomeAs.2.1 159 = .ok (.iconst 5, 1) := by decide +kernel
theorem dX0_becomeAs_160 : decode M_X0_becomeAs.2.1 160 = .ok (.invokestatic 52, 3) := by decide +kernel
theorem dX0_becomeAs_163 : decode M_X0_becomeAs.2.1 163 = .ok (.return_, 1) := by decide +kernel
theorem hs_X0_9 : a_fs RX0 9 0 0 := ⟨RX0, TX0, 13, rfl, tin_X0, by decide, a_in 105 (by decide +kernel) rfl⟩
theorem hw_X0_9 : a_fw RX0 9 0 0 (.int) := ⟨RX0, TX0, 13, tyX0, rfl, tin_X0, by decide, a_in 105 (by decide +kernel) rfl, tyX0_ok, nmX0, rfl, by decide +kernel⟩
theorem hs_X0_15 : a_fs RX0 15 0 1 := ⟨RX0, TX0, 13, rfl, tin_X0, by decide, a_in 107 (by decide +kernel) rfl⟩
theorem hw_X0_15 : a_fw RX0 15 0 1 (.int) := ⟨RX0, TX0, 13, tyX0, rfl, tin_X0, by decide, a_in 107 (by decide +kernel) rfl, tyX0_ok, nmX0, rfl, by decide +kernel⟩
theorem hs_X0_18 : a_fs RX0 18 0 2 := ⟨RX0, TX0, 13, rfl, tin_X0, by decide, a_in 109 (by decide +kernel) rfl⟩
theorem hw_X0_18 : a_fw RX0 18 0 2 (.int) := ⟨RX0, TX0, 13, tyX0, rfl, tin_X0, by decide, a_in 109 (by decide +kernel) rfl, tyX0_ok, nmX0, rfl, by decide +kernel⟩
theorem hs_X0_21 : a_fs RX0 21 0 3 := ⟨RX0, TX0, 13, rfl, tin_X0, by decide, a_in 111 (by decide +kernel) rfl⟩
theorem hw_X0_21 : a_fw RX0 21 0 3 (.int) := ⟨RX0, TX0, 13, tyX0, rfl, tin_X0, by decide, a_in 111 (by decide +kernel) rfl, tyX0_ok, nmX0, rfl, by decide +kernel⟩
theorem hs_X0_24 : a_fs RX0 24 0 4 := ⟨RX0, TX0, 13, rfl, tin_X0, by decide, a_in 113 (by decide +kernel) rfl⟩
theorem hs_X0_28 : a_fs RX0 28 0 5 := ⟨RX0, TX0, 13, rfl, tin_X0, by decide, a_in 115 (by decide +kernel) rfl⟩
theorem hs_X0_31 : a_fs RX0 31 0 6 := ⟨RX0, TX0, 13, rfl, tin_X0, by decide, a_in 117 (by decide +kernel) rfl⟩
theorem hs_X0_34 : a_fs RX0 34 0 7 := ⟨RX0, TX0, 13, rfl, tin_X0, by decide, a_in 119 (by decide +kernel) rfl⟩
theorem hs_X0_37 : a_fs RX0 37 0 8 := ⟨RX0, TX0, 13, rfl, tin_X0, by decide, a_in 120 (by decide +kernel) rfl⟩
theorem hs_X0_40 : a_fs RX0 40 0 9 := ⟨RX0, TX0, 13, rfl, tin_X0, by decide, a_in 122 (by decide +kernel) rfl⟩
theorem hs_X0_43 : a_fs RX0 43 0 10 := ⟨RX0, TX0, 13, rfl, tin_X0, by decide, a_in 124 (by decide +kernel) rfl⟩
theorem hs_X0_46 : a_fs RX0 46 0 11 := ⟨RX0, TX0, 13, rfl, tin_X0, by decide, a_in 126 (by decide +kernel) rfl⟩
theorem hs_X0_49 : a_fs RX0 49 0 12 := ⟨RX0, TX0, 13, rfl, tin_X0, by decide, a_in 128 (by decide +kernel) rfl⟩
theorem hc_X0_52 : Cond.methodLink RX0 52 arraycopyName ∈ a_T ∧ Cond.native arraycopyName ∈ a_T ∧ Cond.static arraycopyName ∈ a_T ∧ Cond.initialized "java/lang/System" ∈ a_T := ⟨a_in 246 (by decide +kernel) rfl, a_in 248 (by decide +kernel) rfl, a_in 247 (by decide +kernel) rfl, a_in 80 (by decide +kernel) rfl⟩
def f_X0_becomeAs (a0 : Nat) (a1 : Nat) (w : aW) : Option (Unit × aW) :=
  (gI 0 w a1 0).bind fun x1 =>
  (sF 0 w a0 0 (.int x1)).bind fun w2 =>
  (gI 0 w2 a1 1).bind fun x3 =>
  (sF 0 w2 a0 1 (.int x3)).bind fun w4 =>
  (gI 0 w4 a1 2).bind fun x5 =>
  (sF 0 w4 a0 2 (.int x5)).bind fun w6 =>
  (gI 0 w6 a1 3).bind fun x7 =>
  (sF 0 w6 a0 3 (.int x7)).bind fun w8 =>
  (gR 0 w8 a1 4).bind fun r9 =>
  (gR 0 w8 a0 4).bind fun r10 =>
  (cpI w8 r9 (0 : Int32) r10 (0 : Int32) (9 : Int32)).bind fun w11 =>
  (gR 0 w11 a1 5).bind fun r12 =>
  (gR 0 w11 a0 5).bind fun r13 =>
  (cpI w11 r12 (0 : Int32) r13 (0 : Int32) (9 : Int32)).bind fun w14 =>
  (gR 0 w14 a1 6).bind fun r15 =>
  (gR 0 w14 a0 6).bind fun r16 =>
  (cpI w14 r15 (0 : Int32) r16 (0 : Int32) (9 : Int32)).bind fun w17 =>
  (gR 0 w17 a1 7).bind fun r18 =>
  (gR 0 w17 a0 7).bind fun r19 =>
  (cpI w17 r18 (0 : Int32) r19 (0 : Int32) (9 : Int32)).bind fun w20 =>
  (gR 0 w20 a1 8).bind fun r21 =>
  (gR 0 w20 a0 8).bind fun r22 =>
  (cpI w20 r21 (0 : Int32) r22 (0 : Int32) (9 : Int32)).bind fun w23 =>
  (gR 0 w23 a1 9).bind fun r24 =>
  (gR 0 w23 a0 9).bind fun r25 =>
  (cpI w23 r24 (0 : Int32) r25 (0 : Int32) (5 : Int32)).bind fun w26 =>
  (gR 0 w26 a1 10).bind fun r27 =>
  (gR 0 w26 a0 10).bind fun r28 =>
  (cpI w26 r27 (0 : Int32) r28 (0 : Int32) (5 : Int32)).bind fun w29 =>
  (gR 0 w29 a1 11).bind fun r30 =>
  (gR 0 w29 a0 11).bind fun r31 =>
  (cpI w29 r30 (0 : Int32) r31 (0 : Int32) (5 : Int32)).bind fun w32 =>
  (gR 0 w32 a1 12).bind fun r33 =>
  (gR 0 w32 a0 12).bind fun r34 =>
  (cpI w32 r33 (0 : Int32) r34 (0 : Int32) (5 : Int32)).bind fun w35 =>
  some ((), w35)
theorem s_X0_becomeAs (a0 : Nat) (a1 : Nat) (w : aW) : Sp rvV M_X0_becomeAs [.ref a0, .ref a1] w (f_X0_becomeAs a0 a1 w) := by
  refine e_entry [some (.ref a0), some (.ref a1)] (by decide +kernel) (Nat.le_of_ble_eq_true rfl) (fun _ => rfl) ?_
  unfold f_X0_becomeAs
  refine e_aload_n (pc := 0) dX0_becomeAs_0 rfl rfl ?_
  refine e_aload_n (pc := 1) dX0_becomeAs_1 rfl rfl ?_
  refine e_getI (pc := 2) dX0_becomeAs_2 hs_X0_9 (fun x1 => ?_)
  refine e_put (pc := 5) dX0_becomeAs_5 hw_X0_9 (fun _ => rfl) (fun _ => rfl) (fun w2 => ?_)
  refine e_aload_n (pc := 8) dX0_becomeAs_8 rfl rfl ?_
  refine e_aload_n (pc := 9) dX0_becomeAs_9 rfl rfl ?_
  refine e_getI (pc := 10) dX0_becomeAs_10 hs_X0_15 (fun x3 => ?_)
  refine e_put (pc := 13) dX0_becomeAs_13 hw_X0_15 (fun _ => rfl) (fun _ => rfl) (fun w4 => ?_)
  refine e_aload_n (pc := 16) dX0_becomeAs_16 rfl rfl ?_
  refine e_aload_n (pc := 17) dX0_becomeAs_17 rfl rfl ?_
  refine e_getI (pc := 18) dX0_becomeAs_18 hs_X0_18 (fun x5 => ?_)
  refine e_put (pc := 21) dX0_becomeAs_21 hw_X0_18 (fun _ => rfl) (fun _ => rfl) (fun w6 => ?_)
  refine e_aload_n (pc := 24) dX0_becomeAs_24 rfl rfl ?_
  refine e_aload_n (pc := 25) dX0_becomeAs_25 rfl rfl ?_
  refine e_getI (pc := 26) dX0_becomeAs_26 hs_X0_21 (fun x7 => ?_)
  refine e_put (pc := 29) dX0_becomeAs_29 hw_X0_21 (fun _ => rfl) (fun _ => rfl) (fun w8 => ?_)
  refine e_aload_n (pc := 32) dX0_becomeAs_32 rfl rfl ?_
  refine e_getR (pc := 33) dX0_becomeAs_33 hs_X0_24 (fun r9 => ?_)
  refine e_iconst (pc := 36) dX0_becomeAs_36 kc_0 ?_
  refine e_aload_n (pc := 37) dX0_becomeAs_37 rfl rfl ?_
  refine e_getR (pc := 38) dX0_becomeAs_38 hs_X0_24 (fun r10 => ?_)
  refine e_iconst (pc := 41) dX0_becomeAs_41 kc_0 ?_
  refine e_bipush (pc := 42) dX0_becomeAs_42 kb_9 ?_
  refine e_copy (pc := 44) (by decide) (by decide) hc_X0_52 dX0_becomeAs_44 (fun w11 => ?_)
  refine e_aload_n (pc := 47) dX0_becomeAs_47 rfl rfl ?_
  refine e_getR (pc := 48) dX0_becomeAs_48 hs_X0_28 (fun r12 => ?_)
  refine e_iconst (pc := 51) dX0_becomeAs_51 kc_0 ?_
  refine e_aload_n (pc := 52) dX0_becomeAs_52 rfl rfl ?_
  refine e_getR (pc := 53) dX0_becomeAs_53 hs_X0_28 (fun r13 => ?_)
  refine e_iconst (pc := 56) dX0_becomeAs_56 kc_0 ?_
  refine e_bipush (pc := 57) dX0_becomeAs_57 kb_9 ?_
  refine e_copy (pc := 59) (by decide) (by decide) hc_X0_52 dX0_becomeAs_59 (fun w14 => ?_)
  refine e_aload_n (pc := 62) dX0_becomeAs_62 rfl rfl ?_
  refine e_getR (pc := 63) dX0_becomeAs_63 hs_X0_31 (fun r15 => ?_)
  refine e_iconst (pc := 66) dX0_becomeAs_66 kc_0 ?_
  refine e_aload_n (pc := 67) dX0_becomeAs_67 rfl rfl ?_
  refine e_getR (pc := 68) dX0_becomeAs_68 hs_X0_31 (fun r16 => ?_)
  refine e_iconst (pc := 71) dX0_becomeAs_71 kc_0 ?_
  refine e_bipush (pc := 72) dX0_becomeAs_72 kb_9 ?_
  refine e_copy (pc := 74) (by decide) (by decide) hc_X0_52 dX0_becomeAs_74 (fun w17 => ?_)
  refine e_aload_n (pc := 77) dX0_becomeAs_77 rfl rfl ?_
  refine e_getR (pc := 78) dX0_becomeAs_78 hs_X0_34 (fun r18 => ?_)
  refine e_iconst (pc := 81) dX0_becomeAs_81 kc_0 ?_
  refine e_aload_n (pc := 82) dX0_becomeAs_82 rfl rfl ?_
  refine e_getR (pc := 83) dX0_becomeAs_83 hs_X0_34 (fun r19 => ?_)
  refine e_iconst (pc := 86) dX0_becomeAs_86 kc_0 ?_
  refine e_bipush (pc := 87) dX0_becomeAs_87 kb_9 ?_
  refine e_copy (pc := 89) (by decide) (by decide) hc_X0_52 dX0_becomeAs_89 (fun w20 => ?_)
  refine e_aload_n (pc := 92) dX0_becomeAs_92 rfl rfl ?_
  refine e_getR (pc := 93) dX0_becomeAs_93 hs_X0_37 (fun r21 => ?_)
  refine e_iconst (pc := 96) dX0_becomeAs_96 kc_0 ?_
  refine e_aload_n (pc := 97) dX0_becomeAs_97 rfl rfl ?_
  refine e_getR (pc := 98) dX0_becomeAs_98 hs_X0_37 (fun r22 => ?_)
  refine e_iconst (pc := 101) dX0_becomeAs_101 kc_0 ?_
  refine e_bipush (pc := 102) dX0_becomeAs_102 kb_9 ?_
  refine e_copy (pc := 104) (by decide) (by decide) hc_X0_52 dX0_becomeAs_104 (fun w23 => ?_)
  refine e_aload_n (pc := 107) dX0_becomeAs_107 rfl rfl ?_
  refine e_getR (pc := 108) dX0_becomeAs_108 hs_X0_40 (fun r24 => ?_)
  refine e_iconst (pc := 111) dX0_becomeAs_111 kc_0 ?_
  refine e_aload_n (pc := 112) dX0_becomeAs_112 rfl rfl ?_
  refine e_getR (pc := 113) dX0_becomeAs_113 hs_X0_40 (fun r25 => ?_)
  refine e_iconst (pc := 116) dX0_becomeAs_116 kc_0 ?_
  refine e_iconst (pc := 117) dX0_becomeAs_117 kc_5 ?_
  refine e_copy (pc := 118) (by decide) (by decide) hc_X0_52 dX0_becomeAs_118 (fun w26 => ?_)
  refine e_aload_n (pc := 121) dX0_becomeAs_121 rfl rfl ?_
  refine e_getR (pc := 122) dX0_becomeAs_122 hs_X0_43 (fun r27 => ?_)
  refine e_iconst (pc := 125) dX0_becomeAs_125 kc_0 ?_
  refine e_aload_n (pc := 126) dX0_becomeAs_126 rfl rfl ?_
  refine e_getR (pc := 127) dX0_becomeAs_127 hs_X0_43 (fun r28 => ?_)
  refine e_iconst (pc := 130) dX0_becomeAs_130 kc_0 ?_
  refine e_iconst (pc := 131) dX0_becomeAs_131 kc_5 ?_
  refine e_copy (pc := 132) (by decide) (by decide) hc_X0_52 dX0_becomeAs_132 (fun w29 => ?_)
  refine e_aload_n (pc := 135) dX0_becomeAs_135 rfl rfl ?_
  refine e_getR (pc := 136) dX0_becomeAs_136 hs_X0_46 (fun r30 => ?_)
  refine e_iconst (pc := 139) dX0_becomeAs_139 kc_0 ?_
  refine e_aload_n (pc := 140) dX0_becomeAs_140 rfl rfl ?_
  refine e_getR (pc := 141) dX0_becomeAs_141 hs_X0_46 (fun r31 => ?_)
  refine e_iconst (pc := 144) dX0_becomeAs_144 kc_0 ?_
  refine e_iconst (pc := 145) dX0_becomeAs_145 kc_5 ?_
  refine e_copy (pc := 146) (by decide) (by decide) hc_X0_52 dX0_becomeAs_146 (fun w32 => ?_)
  refine e_aload_n (pc := 149) dX0_becomeAs_149 rfl rfl ?_
  refine e_getR (pc := 150) dX0_becomeAs_150 hs_X0_49 (fun r33 => ?_)
  refine e_iconst (pc := 153) dX0_becomeAs_153 kc_0 ?_
  refine e_aload_n (pc := 154) dX0_becomeAs_154 rfl rfl ?_
  refine e_getR (pc := 155) dX0_becomeAs_155 hs_X0_49 (fun r34 => ?_)
  refine e_iconst (pc := 158) dX0_becomeAs_158 kc_0 ?_
  refine e_iconst (pc := 159) dX0_becomeAs_159 kc_5 ?_
  refine e_copy (pc := 160) (by decide) (by decide) hc_X0_52 dX0_becomeAs_160 (fun w35 => ?_)
  exact e_vret (pc := 163) dX0_becomeAs_163 rfl
def M_X3_within : aM := (yX3_within, cX3_within, 3, (some .boolean), 0, 0)
theorem ok_X3_within : a_okM M_X3_within 3 := ⟨⟨by decide +kernel, by decide +kernel⟩, by decide +kernel, a_in 222 (by decide +kernel) rfl, a_in 76 (by decide +kernel) rfl⟩
theorem dX3_within_0 : decode M_X3_within.2.1 0 = .ok (.iload_n 0, 1) := by decide +kernel
theorem dX3_within_1 : decode M_X3_within.2.1 1 = .ok (.iload_n 1, 1) := by decide +kernel
theorem dX3_within_2 : decode M_X3_within.2.1 2 = .ok (.if_icmp .lt 12, 3) := by decide +kernel
theorem dX3_within_5 : decode M_X3_within.2.1 5 = .ok (.iload_n 0, 1) := by decide +kernel
theorem dX3_within_6 : decode M_X3_within.2.1 6 = .ok (.iload_n 2, 1) := by decide +kernel
theorem dX3_within_7 : decode M_X3_within.2.1 7 = .ok (.if_icmp .gt 7, 3) := by decide +kernel
theorem dX3_within_10 : decode M_X3_within.2.1 10 = .ok (.iconst 1, 1) := by decide +kernel
theorem dX3_within_11 : decode M_X3_within.2.1 11 = .ok (.goto 4, 3) := by decide +kernel
theorem dX3_within_14 : decode M_X3_within.2.1 14 = .ok (.iconst 0, 1) := by decide +kernel
theorem dX3_within_15 : decode M_X3_within.2.1 15 = .ok (.ireturn, 1) := by decide +kernel
def f_X3_within (a0 : Int32) (a1 : Int32) (a2 : Int32) (w : aW) : Option (Int32 × aW) :=
  if a0 < a1 then
    some ((0 : Int32), w)
  else
    if a2 < a0 then
      some ((0 : Int32), w)
    else
      some ((1 : Int32), w)
theorem s_X3_within (a0 : Int32) (a1 : Int32) (a2 : Int32) (w : aW) : Sp rvI M_X3_within [.int a0, .int a1, .int a2] w (f_X3_within a0 a1 a2 w) := by
  refine e_entry [some (.int a0), some (.int a1), some (.int a2)] (by decide +kernel) (Nat.le_of_ble_eq_true rfl) (fun _ => rfl) ?_
  unfold f_X3_within
  refine e_iload_n (pc := 0) dX3_within_0 rfl rfl ?_
  refine e_iload_n (pc := 1) dX3_within_1 rfl rfl ?_
  refine e_icmp_lt (pc := 2) (tgt := 14) dX3_within_2 (by decide) (fun _ => ?_) (fun _ => ?_)
  · refine e_iconst (pc := 14) dX3_within_14 kc_0 ?_
    exact e_iret (pc := 15) dX3_within_15 rfl (a_nb (by decide))
  · refine e_iload_n (pc := 5) dX3_within_5 rfl rfl ?_
    refine e_iload_n (pc := 6) dX3_within_6 rfl rfl ?_
    refine e_icmp_gt (pc := 7) (tgt := 14) dX3_within_7 (by decide) (fun _ => ?_) (fun _ => ?_)
    · refine e_iconst (pc := 14) dX3_within_14 kc_0 ?_
      exact e_iret (pc := 15) dX3_within_15 rfl (a_nb (by decide))
    · refine e_iconst (pc := 10) dX3_within_10 kc_1 ?_
      refine e_goto (pc := 11) (tgt := 15) dX3_within_11 (by decide) ?_
      exact e_iret (pc := 15) dX3_within_15 rfl (a_nb (by decide))
def M_X0_hasBeast : aM := (yX0_hasBeast, cX0_hasBeast, 2, (some .boolean), 1, 22)
theorem ok_X0_hasBeast : a_okM M_X0_hasBeast 1 := ⟨⟨by decide +kernel, by decide +kernel⟩, by decide +kernel, a_in 281 (by decide +kernel) rfl, a_in 77 (by decide +kernel) rfl⟩
theorem dX0_hasBeast_0 : decode M_X0_hasBeast.2.1 0 = .ok (.iload_n 1, 1) := by decide +kernel
theorem dX0_hasBeast_1 : decode M_X0_hasBeast.2.1 1 = .ok (.iconst 0, 1) := by decide +kernel
theorem dX0_hasBeast_2 : decode M_X0_hasBeast.2.1 2 = .ok (.aload_n 0, 1) := by decide +kernel
theorem dX0_hasBeast_3 : decode M_X0_hasBeast.2.1 3 = .ok (.getfield 15, 3) := by decide +kernel
theorem dX0_hasBeast_6 : decode M_X0_hasBeast.2.1 6 = .ok (.iconst 1, 1) := by decide +kernel
theorem dX0_hasBeast_7 : decode M_X0_hasBeast.2.1 7 = .ok (.isub, 1) := by decide +kernel
theorem dX0_hasBeast_8 : decode M_X0_hasBeast.2.1 8 = .ok (.invokestatic 58, 3) := by decide +kernel
theorem dX0_hasBeast_11 : decode M_X0_hasBeast.2.1 11 = .ok (.ireturn, 1) := by decide +kernel
theorem hn_X0_58 : a_okN RX0 M_X3_within 58 := ⟨⟨"WhoeverNamesIt", a_inN 282 (by decide +kernel) rfl⟩, a_in 221 (by decide +kernel) rfl⟩
def f_X0_hasBeast (a0 : Nat) (a1 : Int32) (w : aW) : Option (Int32 × aW) :=
  (gI 0 w a0 1).bind fun x1 =>
  bk (f_X3_within a1 (0 : Int32) (x1 - (1 : Int32)) w) fun x3 w2 =>
  if ¬ (x3 = 0 ∨ x3 = 1) then none else some (x3, w2)
theorem s_X0_hasBeast (a0 : Nat) (a1 : Int32) (w : aW) : Sp rvI M_X0_hasBeast [.ref a0, .int a1] w (f_X0_hasBeast a0 a1 w) := by
  refine e_entry [some (.ref a0), some (.int a1)] (by decide +kernel) (Nat.le_of_ble_eq_true rfl) (fun _ => rfl) ?_
  unfold f_X0_hasBeast
  refine e_iload_n (pc := 0) dX0_hasBeast_0 rfl rfl ?_
  refine e_iconst (pc := 1) dX0_hasBeast_1 kc_0 ?_
  refine e_aload_n (pc := 2) dX0_hasBeast_2 rfl rfl ?_
  refine e_getI (pc := 3) dX0_hasBeast_3 hs_X0_15 (fun x1 => ?_)
  refine e_iconst (pc := 6) dX0_hasBeast_6 kc_1 ?_
  refine e_isub (pc := 7) dX0_hasBeast_7 ?_
  refine e_callN (pc := 8) (av := [.int a1, .int (0 : Int32), .int (x1 - (1 : Int32))]) (S := []) ok_X3_within ⟨Nat.le_of_ble_eq_true rfl, Nat.le_of_ble_eq_true rfl⟩ hn_X0_58 dX0_hasBeast_8 (s_X3_within a1 (0 : Int32) (x1 - (1 : Int32)) w) rfl rfl (Nat.le_of_ble_eq_true rfl) (fun x3 w2 => ?_)
  refine e_chk (fun h4 => ?_)
  exact e_iret (pc := 11) dX0_hasBeast_11 rfl (a_nb (Decidable.not_not.mp h4))
def M_X0_isAlive : aM := (yX0_isAlive, cX0_isAlive, 2, (some .boolean), 0, 0)
theorem ok_X0_isAlive : a_okM M_X0_isAlive 1 := ⟨⟨by decide +kernel, by decide +kernel⟩, by decide +kernel, a_in 286 (by decide +kernel) rfl, a_in 77 (by decide +kernel) rfl⟩
theorem dX0_isAlive_0 : decode M_X0_isAlive.2.1 0 = .ok (.aload_n 0, 1) := by decide +kernel
theorem dX0_isAlive_1 : decode M_X0_isAlive.2.1 1 = .ok (.getfield 18, 3) := by decide +kernel
theorem dX0_isAlive_4 : decode M_X0_isAlive.2.1 4 = .ok (.iload_n 1, 1) := by decide +kernel
theorem dX0_isAlive_5 : decode M_X0_isAlive.2.1 5 = .ok (.ishr, 1) := by decide +kernel
theorem dX0_isAlive_6 : decode M_X0_isAlive.2.1 6 = .ok (.iconst 1, 1) := by decide +kernel
theorem dX0_isAlive_7 : decode M_X0_isAlive.2.1 7 = .ok (.iand, 1) := by decide +kernel
theorem dX0_isAlive_8 : decode M_X0_isAlive.2.1 8 = .ok (.iconst 1, 1) := by decide +kernel
theorem dX0_isAlive_9 : decode M_X0_isAlive.2.1 9 = .ok (.if_icmp .ne 7, 3) := by decide +kernel
theorem dX0_isAlive_12 : decode M_X0_isAlive.2.1 12 = .ok (.iconst 1, 1) := by decide +kernel
theorem dX0_isAlive_13 : decode M_X0_isAlive.2.1 13 = .ok (.goto 4, 3) := by decide +kernel
theorem dX0_isAlive_16 : decode M_X0_isAlive.2.1 16 = .ok (.iconst 0, 1) := by decide +kernel
theorem dX0_isAlive_17 : decode M_X0_isAlive.2.1 17 = .ok (.ireturn, 1) := by decide +kernel
def f_X0_isAlive (a0 : Nat) (a1 : Int32) (w : aW) : Option (Int32 × aW) :=
  (gI 0 w a0 2).bind fun x1 =>
  if ¬ ((x1 >>> (a1 &&& 31)) &&& (1 : Int32)) = (1 : Int32) then
    some ((0 : Int32), w)
  else
    some ((1 : Int32), w)
theorem s_X0_isAlive (a0 : Nat) (a1 : Int32) (w : aW) : Sp rvI M_X0_isAlive [.ref a0, .int a1] w (f_X0_isAlive a0 a1 w) := by
  refine e_entry [some (.ref a0), some (.int a1)] (by decide +kernel) (Nat.le_of_ble_eq_true rfl) (fun _ => rfl) ?_
  unfold f_X0_isAlive
  refine e_aload_n (pc := 0) dX0_isAlive_0 rfl rfl ?_
  refine e_getI (pc := 1) dX0_isAlive_1 hs_X0_18 (fun x1 => ?_)
  refine e_iload_n (pc := 4) dX0_isAlive_4 rfl rfl ?_
  refine e_ishr (pc := 5) dX0_isAlive_5 ?_
  refine e_iconst (pc := 6) dX0_isAlive_6 kc_1 ?_
  refine e_iand (pc := 7) dX0_isAlive_7 ?_
  refine e_iconst (pc := 8) dX0_isAlive_8 kc_1 ?_
  refine e_icmp_ne (pc := 9) (tgt := 16) dX0_isAlive_9 (by decide) (fun _ => ?_) (fun _ => ?_)
  · refine e_iconst (pc := 16) dX0_isAlive_16 kc_0 ?_
    exact e_iret (pc := 17) dX0_isAlive_17 rfl (a_nb (by decide))
  · refine e_iconst (pc := 12) dX0_isAlive_12 kc_1 ?_
    refine e_goto (pc := 13) (tgt := 17) dX0_isAlive_13 (by decide) ?_
    exact e_iret (pc := 17) dX0_isAlive_17 rfl (a_nb (by decide))
def M_X3_isSort : aM := (yX3_isSort, cX3_isSort, 1, (some .boolean), 1, 22)
theorem ok_X3_isSort : a_okM M_X3_isSort 1 := ⟨⟨by decide +kernel, by decide +kernel⟩, by decide +kernel, a_in 264 (by decide +kernel) rfl, a_in 76 (by decide +kernel) rfl⟩
theorem dX3_isSort_0 : decode M_X3_isSort.2.1 0 = .ok (.iload_n 0, 1) := by decide +kernel
theorem dX3_isSort_1 : decode M_X3_isSort.2.1 1 = .ok (.iconst 0, 1) := by decide +kernel
theorem dX3_isSort_2 : decode M_X3_isSort.2.1 2 = .ok (.bipush 7, 2) := by decide +kernel
theorem dX3_isSort_4 : decode M_X3_isSort.2.1 4 = .ok (.invokestatic 87, 3) := by decide +kernel
theorem dX3_isSort_7 : decode M_X3_isSort.2.1 7 = .ok (.ireturn, 1) := by decide +kernel
theorem ht_X3_87 : a_okS RX3 M_X3_within 87 := ⟨a_in 220 (by decide +kernel) rfl, a_in 221 (by decide +kernel) rfl⟩
def f_X3_isSort (a0 : Int32) (w : aW) : Option (Int32 × aW) :=
  bk (f_X3_within a0 (0 : Int32) (7 : Int32) w) fun x2 w1 =>
  if ¬ (x2 = 0 ∨ x2 = 1) then none else some (x2, w1)
theorem s_X3_isSort (a0 : Int32) (w : aW) : Sp rvI M_X3_isSort [.int a0] w (f_X3_isSort a0 w) := by
  refine e_entry [some (.int a0)] (by decide +kernel) (Nat.le_of_ble_eq_true rfl) (fun _ => rfl) ?_
  unfold f_X3_isSort
  refine e_iload_n (pc := 0) dX3_isSort_0 rfl rfl ?_
  refine e_iconst (pc := 1) dX3_isSort_1 kc_0 ?_
  refine e_bipush (pc := 2) dX3_isSort_2 kb_7 ?_
  refine e_callS (pc := 4) (av := [.int a0, .int (0 : Int32), .int (7 : Int32)]) (S := []) ok_X3_within ⟨Nat.le_of_ble_eq_true rfl, Nat.le_of_ble_eq_true rfl⟩ ht_X3_87 dX3_isSort_4 (s_X3_within a0 (0 : Int32) (7 : Int32) w) rfl rfl (Nat.le_of_ble_eq_true rfl) (fun x2 w1 => ?_)
  refine e_chk (fun h3 => ?_)
  exact e_iret (pc := 7) dX3_isSort_7 rfl (a_nb (Decidable.not_not.mp h3))
def M_X3_isFigure : aM := (yX3_isFigure, cX3_isFigure, 1, (some .boolean), 1, 22)
theorem ok_X3_isFigure : a_okM M_X3_isFigure 1 := ⟨⟨by decide +kernel, by decide +kernel⟩, by decide +kernel, a_in 267 (by decide +kernel) rfl, a_in 76 (by decide +kernel) rfl⟩
theorem dX3_isFigure_0 : decode M_X3_isFigure.2.1 0 = .ok (.iload_n 0, 1) := by decide +kernel
theorem dX3_isFigure_1 : decode M_X3_isFigure.2.1 1 = .ok (.iconst 0, 1) := by decide +kernel
theorem dX3_isFigure_2 : decode M_X3_isFigure.2.1 2 = .ok (.bipush 9, 2) := by decide +kernel
theorem dX3_isFigure_4 : decode M_X3_isFigure.2.1 4 = .ok (.invokestatic 87, 3) := by decide +kernel
theorem dX3_isFigure_7 : decode M_X3_isFigure.2.1 7 = .ok (.ireturn, 1) := by decide +kernel
def f_X3_isFigure (a0 : Int32) (w : aW) : Option (Int32 × aW) :=
  bk (f_X3_within a0 (0 : Int32) (9 : Int32) w) fun x2 w1 =>
  if ¬ (x2 = 0 ∨ x2 = 1) then none else some (x2, w1)
theorem s_X3_isFigure (a0 : Int32) (w : aW) : Sp rvI M_X3_isFigure [.int a0] w (f_X3_isFigure a0 w) := by
  refine e_entry [some (.int a0)] (by decide +kernel) (Nat.le_of_ble_eq_true rfl) (fun _ => rfl) ?_
  unfold f_X3_isFigure
  refine e_iload_n (pc := 0) dX3_isFigure_0 rfl rfl ?_
  refine e_iconst (pc := 1) dX3_isFigure_1 kc_0 ?_
  refine e_bipush (pc := 2) dX3_isFigure_2 kb_9 ?_
  refine e_callS (pc := 4) (av := [.int a0, .int (0 : Int32), .int (9 : Int32)]) (S := []) ok_X3_within ⟨Nat.le_of_ble_eq_true rfl, Nat.le_of_ble_eq_true rfl⟩ ht_X3_87 dX3_isFigure_4 (s_X3_within a0 (0 : Int32) (9 : Int32) w) rfl rfl (Nat.le_of_ble_eq_true rfl) (fun x2 w1 => ?_)
  refine e_chk (fun h3 => ?_)
  exact e_iret (pc := 7) dX3_isFigure_7 rfl (a_nb (Decidable.not_not.mp h3))
def M_X3_isPlace : aM := (yX3_isPlace, cX3_isPlace, 1, (some .boolean), 1, 22)
theorem ok_X3_isPlace : a_okM M_X3_isPlace 1 := ⟨⟨by decide +kernel, by decide +kernel⟩, by decide +kernel, a_in 270 (by decide +kernel) rfl, a_in 76 (by decide +kernel) rfl⟩
theorem dX3_isPlace_0 : decode M_X3_isPlace.2.1 0 = .ok (.iload_n 0, 1) := by decide +kernel
theorem dX3_isPlace_1 : decode M_X3_isPlace.2.1 1 = .ok (.iconst 0, 1) := by decide +kernel
theorem dX3_isPlace_2 : decode M_X3_isPlace.2.1 2 = .ok (.bipush 15, 2) := by decide +kernel
theorem dX3_isPlace_4 : decode M_X3_isPlace.2.1 4 = .ok (.invokestatic 87, 3) := by decide +kernel
theorem dX3_isPlace_7 : decode M_X3_isPlace.2.1 7 = .ok (.ireturn, 1) := by decide +kernel
def f_X3_isPlace (a0 : Int32) (w : aW) : Option (Int32 × aW) :=
  bk (f_X3_within a0 (0 : Int32) (15 : Int32) w) fun x2 w1 =>
  if ¬ (x2 = 0 ∨ x2 = 1) then none else some (x2, w1)
theorem s_X3_isPlace (a0 : Int32) (w : aW) : Sp rvI M_X3_isPlace [.int a0] w (f_X3_isPlace a0 w) := by
  refine e_entry [some (.int a0)] (by decide +kernel) (Nat.le_of_ble_eq_true rfl) (fun _ => rfl) ?_
  unfold f_X3_isPlace
  refine e_iload_n (pc := 0) dX3_isPlace_0 rfl rfl ?_
  refine e_iconst (pc := 1) dX3_isPlace_1 kc_0 ?_
  refine e_bipush (pc := 2) dX3_isPlace_2 kb_15 ?_
  refine e_callS (pc := 4) (av := [.int a0, .int (0 : Int32), .int (15 : Int32)]) (S := []) ok_X3_within ⟨Nat.le_of_ble_eq_true rfl, Nat.le_of_ble_eq_true rfl⟩ ht_X3_87 dX3_isPlace_4 (s_X3_within a0 (0 : Int32) (15 : Int32) w) rfl rfl (Nat.le_of_ble_eq_true rfl) (fun x2 w1 => ?_)
  refine e_chk (fun h3 => ?_)
  exact e_iret (pc := 7) dX3_isPlace_7 rfl (a_nb (Decidable.not_not.mp h3))
def M_X0_addBeast : aM := (yX0_addBeast, cX0_addBeast, 5, (some .int), 2, 42)
theorem ok_X0_addBeast : a_okM M_X0_addBeast 3 := ⟨⟨by decide +kernel, by decide +kernel⟩, by decide +kernel, a_in 261 (by decide +kernel) rfl, a_in 77 (by decide +kernel) rfl⟩
theorem dX0_addBeast_0 : decode M_X0_addBeast.2.1 0 = .ok (.iload_n 1, 1) := by decide +kernel
theorem dX0_addBeast_1 : decode M_X0_addBeast.2.1 1 = .ok (.invokestatic 62, 3) := by decide +kernel
theorem dX0_addBeast_4 : decode M_X0_addBeast.2.1 4 = .ok (.ifCond .eq 17, 3) := by decide +kernel
theorem dX0_addBeast_7 : decode M_X0_addBeast.2.1 7 = .ok (.iload_n 2, 1) := by decide +kernel
theorem dX0_addBeast_8 : decode M_X0_addBeast.2.1 8 = .ok (.invokestatic 66, 3) := by decide +kernel
theorem dX0_addBeast_11 : decode M_X0_addBeast.2.1 11 = .ok (.ifCond .eq 10, 3) := by decide +kernel
theorem dX0_addBeast_14 : decode M_X0_addBeast.2.1 14 = .ok (.iload_n 3, 1) := by decide +kernel
theorem dX0_addBeast_15 : decode M_X0_addBeast.2.1 15 = .ok (.invokestatic 69, 3) := by decide +kernel
theorem dX0_addBeast_18 : decode M_X0_addBeast.2.1 18 = .ok (.ifCond .ne 5, 3) := by decide +kernel
theorem dX0_addBeast_21 : decode M_X0_addBeast.2.1 21 = .ok (.iconst (-1), 1) := by decide +kernel
theorem dX0_addBeast_22 : decode M_X0_addBeast.2.1 22 = .ok (.ireturn, 1) := by decide +kernel
theorem dX0_addBeast_23 : decode M_X0_addBeast.2.1 23 = .ok (.aload_n 0, 1) := by decide +kernel
theorem dX0_addBeast_24 : decode M_X0_addBeast.2.1 24 = .ok (.getfield 15, 3) := by decide +kernel
theorem dX0_addBeast_27 : decode M_X0_addBeast.2.1 27 = .ok (.bipush 9, 2) := by decide +kernel
theorem dX0_addBeast_29 : decode M_X0_addBeast.2.1 29 = .ok (.if_icmp .lt 6, 3) := by decide +kernel
theorem dX0_addBeast_32 : decode M_X0_addBeast.2.1 32 = .ok (.bipush (-2), 2) := by decide +kernel
theorem dX0_addBeast_34 : decode M_X0_addBeast.2.1 34 = .ok (.ireturn, 1) := by decide +kernel
theorem dX0_addBeast_35 : decode M_X0_addBeast.2.1 35 = .ok (.aload_n 0, 1) := by decide +kernel
theorem dX0_addBeast_36 : decode M_X0_addBeast.2.1 36 = .ok (.getfield 15, 3) := by decide +kernel
theorem dX0_addBeast_39 : decode M_X0_addBeast.2.1 39 = .ok (.istore 4, 2) := by decide +kernel
theorem dX0_addBeast_41 : decode M_X0_addBeast.2.1 41 = .ok (.aload_n 0, 1) := by decide +kernel
theorem dX0_addBeast_42 : decode M_X0_addBeast.2.1 42 = .ok (.dup, 1) := by decide +kernel
theorem dX0_addBeast_43 : decode M_X0_addBeast.2.1 43 = .ok (.getfield 15, 3) := by decide +kernel
theorem dX0_addBeast_46 : decode M_X0_addBeast.2.1 46 = .ok (.iconst 1, 1) := by decide +kernel
theorem dX0_addBeast_47 : decode M_X0_addBeast.2.1 47 = .ok (.iadd, 1) := by decide +kernel
theorem dX0_addBeast_48 : decode M_X0_addBeast.2.1 48 = .ok (.putfield 15, 3) := by decide +kernel
theorem dX0_addBeast_51 : decode M_X0_addBeast.2.1 51 = .ok (.aload_n 0, 1) := by decide +kernel
theorem dX0_addBeast_52 : decode M_X0_addBeast.2.1 52 = .ok (.dup, 1) := by decide +kernel
theorem dX0_addBeast_53 : decode M_X0_addBeast.2.1 53 = .ok (.getfield 18, 3) := by decide +kernel
theorem dX0_addBeast_56 : decode M_X0_addBeast.2.1 56 = .ok (.iconst 1, 1) := by decide +kernel
theorem dX0_addBeast_57 : decode M_X0_addBeast.2.1 57 = .ok (.iload 4, 2) := by decide +kernel
theorem dX0_addBeast_59 : decode M_X0_addBeast.2.1 59 = .ok (.ishl, 1) := by decide +kernel
theorem dX0_addBeast_60 : decode M_X0_addBeast.2.1 60 = .ok (.ior, 1) := by decide +kernel
theorem dX0_addBeast_61 : decode M_X0_addBeast.2.1 61 = .ok (.putfield 18, 3) := by decide +kernel
theorem dX0_addBeast_64 : decode M_X0_addBeast.2.1 64 = .ok (.aload_n 0, 1) := by decide +kernel
theorem dX0_addBeast_65 : decode M_X0_addBeast.2.1 65 = .ok (.getfield 24, 3) := by decide +kernel
theorem dX0_addBeast_68 : decode M_X0_addBeast.2.1 68 = .ok (.iload 4, 2) := by decide +kernel
theorem dX0_addBeast_70 : decode M_X0_addBeast.2.1 70 = .ok (.iload_n 1, 1) := by decide +kernel
theorem dX0_addBeast_71 : decode M_X0_addBeast.2.1 71 = .ok (.iastore, 1) := by decide +kernel
theorem dX0_addBeast_72 : decode M_X0_addBeast.2.1 72 = .ok (.aload_n 0, 1) := by decide +kernel
theorem dX0_addBeast_73 : decode M_X0_addBeast.2.1 73 = .ok (.getfield 28, 3) := by decide +kernel
theorem dX0_addBeast_76 : decode M_X0_addBeast.2.1 76 = .ok (.iload 4, 2) := by decide +kernel
theorem dX0_addBeast_78 : decode M_X0_addBeast.2.1 78 = .ok (.iload_n 2, 1) := by decide +kernel
theorem dX0_addBeast_79 : decode M_X0_addBeast.2.1 79 = .ok (.iastore, 1) := by decide +kernel
theorem dX0_addBeast_80 : decode M_X0_addBeast.2.1 80 = .ok (.aload_n 0, 1) := by decide +kernel
theorem dX0_addBeast_81 : decode M_X0_addBeast.2.1 81 = .ok (.getfield 31, 3) := by decide +kernel
theorem dX0_addBeast_84 : decode M_X0_addBeast.2.1 84 = .ok (.iload 4, 2) := by decide +kernel
theorem dX0_addBeast_86 : decode M_X0_addBeast.2.1 86 = .ok (.iload_n 3, 1) := by decide +kernel
theorem dX0_addBeast_87 : decode M_X0_addBeast.2.1 87 = .ok (.iastore, 1) := by decide +kernel
theorem dX0_addBeast_88 : decode M_X0_addBeast.2.1 88 = .ok (.aload_n 0, 1) := by decide +kernel
theorem dX0_addBeast_89 : decode M_X0_addBeast.2.1 89 = .ok (.getfield 34, 3) := by decide +kernel
theorem dX0_addBeast_92 : decode M_X0_addBeast.2.1 92 = .ok (.iload 4, 2) := by decide +kernel
theorem dX0_addBeast_94 : decode M_X0_addBeast.2.1 94 = .ok (.iconst 0, 1) := by decide +kernel
theorem dX0_addBeast_95 : decode M_X0_addBeast.2.1 95 = .ok (.iastore, 1) := by decide +kernel
theorem dX0_addBeast_96 : decode M_X0_addBeast.2.1 96 = .ok (.aload_n 0, 1) := by decide +kernel
theorem dX0_addBeast_97 : decode M_X0_addBeast.2.1 97 = .ok (.getfield 37, 3) := by decide +kernel
theorem dX0_addBeast_100 : decode M_X0_addBeast.2.1 100 = .ok (.iload 4, 2) := by decide +kernel
theorem dX0_addBeast_102 : decode M_X0_addBeast.2.1 102 = .ok (.bipush (-4), 2) := by decide +kernel
theorem dX0_addBeast_104 : decode M_X0_addBeast.2.1 104 = .ok (.iastore, 1) := by decide +kernel
theorem dX0_addBeast_105 : decode M_X0_addBeast.2.1 105 = .ok (.iload 4, 2) := by decide +kernel
theorem dX0_addBeast_107 : decode M_X0_addBeast.2.1 107 = .ok (.ireturn, 1) := by decide +kernel
theorem hn_X0_62 : a_okN RX0 M_X3_isSort 62 := ⟨⟨"WhoeverNamesIt", a_inN 262 (by decide +kernel) rfl⟩, a_in 263 (by decide +kernel) rfl⟩
theorem hn_X0_66 : a_okN RX0 M_X3_isFigure 66 := ⟨⟨"WhoeverNamesIt", a_inN 265 (by decide +kernel) rfl⟩, a_in 266 (by decide +kernel) rfl⟩
theorem hn_X0_69 : a_okN RX0 M_X3_isPlace 69 := ⟨⟨"WhoeverNamesIt", a_inN 268 (by decide +kernel) rfl⟩, a_in 269 (by decide +kernel) rfl⟩
def f_X0_addBeast (a0 : Nat) (a1 : Int32) (a2 : Int32) (a3 : Int32) (w : aW) : Option (Int32 × aW) :=
  bk (f_X3_isSort a1 w) fun x2 w1 =>
  if x2 = (0 : Int32) then
    some ((-1 : Int32), w1)
  else
    bk (f_X3_isFigure a2 w1) fun x4 w3 =>
    if x4 = (0 : Int32) then
      some ((-1 : Int32), w3)
    else
      bk (f_X3_isPlace a3 w3) fun x6 w5 =>
      if ¬ x6 = (0 : Int32) then
        (gI 0 w5 a0 1).bind fun x7 =>
        if x7 < (9 : Int32) then
          (gI 0 w5 a0 1).bind fun x8 =>
          (gI 0 w5 a0 1).bind fun x9 =>
          (sF 0 w5 a0 1 (.int (x9 + (1 : Int32)))).bind fun w10 =>
          (gI 0 w10 a0 2).bind fun x11 =>
          (sF 0 w10 a0 2 (.int (x11 ||| ((1 : Int32) <<< (x8 &&& 31))))).bind fun w12 =>
          (gR 0 w12 a0 4).bind fun r13 =>
          (sA w12 r13 x8 a1).bind fun w14 =>
          (gR 0 w14 a0 5).bind fun r15 =>
          (sA w14 r15 x8 a2).bind fun w16 =>
          (gR 0 w16 a0 6).bind fun r17 =>
          (sA w16 r17 x8 a3).bind fun w18 =>
          (gR 0 w18 a0 7).bind fun r19 =>
          (sA w18 r19 x8 (0 : Int32)).bind fun w20 =>
          (gR 0 w20 a0 8).bind fun r21 =>
          (sA w20 r21 x8 (-4 : Int32)).bind fun w22 =>
          some (x8, w22)
        else
          some ((-2 : Int32), w5)
      else
        some ((-1 : Int32), w5)
theorem s_X0_addBeast (a0 : Nat) (a1 : Int32) (a2 : Int32) (a3 : Int32) (w : aW) : Sp rvI M_X0_addBeast [.ref a0, .int a1, .int a2, .int a3] w (f_X0_addBeast a0 a1 a2 a3 w) := by
  refine e_entry [some (.ref a0), some (.int a1), some (.int a2), some (.int a3), none] (by decide +kernel) (Nat.le_of_ble_eq_true rfl) (fun _ => rfl) ?_
  unfold f_X0_addBeast
  refine e_iload_n (pc := 0) dX0_addBeast_0 rfl rfl ?_
  refine e_callN (pc := 1) (av := [.int a1]) (S := []) ok_X3_isSort ⟨Nat.le_of_ble_eq_true rfl, Nat.le_of_ble_eq_true rfl⟩ hn_X0_62 dX0_addBeast_1 (s_X3_isSort a1 w) rfl rfl (Nat.le_of_ble_eq_true rfl) (fun x2 w1 => ?_)
  refine e_if_eq (pc := 4) (tgt := 21) dX0_addBeast_4 (by decide) (fun _ => ?_) (fun _ => ?_)
  · refine e_iconst (pc := 21) dX0_addBeast_21 kc_m1 ?_
    exact e_iret (pc := 22) dX0_addBeast_22 rfl rfl
  · refine e_iload_n (pc := 7) dX0_addBeast_7 rfl rfl ?_
    refine e_callN (pc := 8) (av := [.int a2]) (S := []) ok_X3_isFigure ⟨Nat.le_of_ble_eq_true rfl, Nat.le_of_ble_eq_true rfl⟩ hn_X0_66 dX0_addBeast_8 (s_X3_isFigure a2 w1) rfl rfl (Nat.le_of_ble_eq_true rfl) (fun x4 w3 => ?_)
    refine e_if_eq (pc := 11) (tgt := 21) dX0_addBeast_11 (by decide) (fun _ => ?_) (fun _ => ?_)
    · refine e_iconst (pc := 21) dX0_addBeast_21 kc_m1 ?_
      exact e_iret (pc := 22) dX0_addBeast_22 rfl rfl
    · refine e_iload_n (pc := 14) dX0_addBeast_14 rfl rfl ?_
      refine e_callN (pc := 15) (av := [.int a3]) (S := []) ok_X3_isPlace ⟨Nat.le_of_ble_eq_true rfl, Nat.le_of_ble_eq_true rfl⟩ hn_X0_69 dX0_addBeast_15 (s_X3_isPlace a3 w3) rfl rfl (Nat.le_of_ble_eq_true rfl) (fun x6 w5 => ?_)
      refine e_if_ne (pc := 18) (tgt := 23) dX0_addBeast_18 (by decide) (fun _ => ?_) (fun _ => ?_)
      · refine e_aload_n (pc := 23) dX0_addBeast_23 rfl rfl ?_
        refine e_getI (pc := 24) dX0_addBeast_24 hs_X0_15 (fun x7 => ?_)
        refine e_bipush (pc := 27) dX0_addBeast_27 kb_9 ?_
        refine e_icmp_lt (pc := 29) (tgt := 35) dX0_addBeast_29 (by decide) (fun _ => ?_) (fun _ => ?_)
        · refine e_aload_n (pc := 35) dX0_addBeast_35 rfl rfl ?_
          refine e_getI (pc := 36) dX0_addBeast_36 hs_X0_15 (fun x8 => ?_)
          refine e_istore (L' := [some (.ref a0), some (.int a1), some (.int a2), some (.int a3), some (.int x8)]) (pc := 39) dX0_addBeast_39 (by decide) rfl ?_
          refine e_aload_n (pc := 41) dX0_addBeast_41 rfl rfl ?_
          refine e_dup (pc := 42) dX0_addBeast_42 rfl ?_
          refine e_getI (pc := 43) dX0_addBeast_43 hs_X0_15 (fun x9 => ?_)
          refine e_iconst (pc := 46) dX0_addBeast_46 kc_1 ?_
          refine e_iadd (pc := 47) dX0_addBeast_47 ?_
          refine e_put (pc := 48) dX0_addBeast_48 hw_X0_15 (fun _ => rfl) (fun _ => rfl) (fun w10 => ?_)
          refine e_aload_n (pc := 51) dX0_addBeast_51 rfl rfl ?_
          refine e_dup (pc := 52) dX0_addBeast_52 rfl ?_
          refine e_getI (pc := 53) dX0_addBeast_53 hs_X0_18 (fun x11 => ?_)
          refine e_iconst (pc := 56) dX0_addBeast_56 kc_1 ?_
          refine e_iload (pc := 57) dX0_addBeast_57 rfl ?_
          refine e_ishl (pc := 59) dX0_addBeast_59 ?_
          refine e_ior (pc := 60) dX0_addBeast_60 ?_
          refine e_put (pc := 61) dX0_addBeast_61 hw_X0_18 (fun _ => rfl) (fun _ => rfl) (fun w12 => ?_)
          refine e_aload_n (pc := 64) dX0_addBeast_64 rfl rfl ?_
          refine e_getR (pc := 65) dX0_addBeast_65 hs_X0_24 (fun r13 => ?_)
          refine e_iload (pc := 68) dX0_addBeast_68 rfl ?_
          refine e_iload_n (pc := 70) dX0_addBeast_70 rfl rfl ?_
          refine e_iast (pc := 71) dX0_addBeast_71 (fun w14 => ?_)
          refine e_aload_n (pc := 72) dX0_addBeast_72 rfl rfl ?_
          refine e_getR (pc := 73) dX0_addBeast_73 hs_X0_28 (fun r15 => ?_)
          refine e_iload (pc := 76) dX0_addBeast_76 rfl ?_
          refine e_iload_n (pc := 78) dX0_addBeast_78 rfl rfl ?_
          refine e_iast (pc := 79) dX0_addBeast_79 (fun w16 => ?_)
          refine e_aload_n (pc := 80) dX0_addBeast_80 rfl rfl ?_
          refine e_getR (pc := 81) dX0_addBeast_81 hs_X0_31 (fun r17 => ?_)
          refine e_iload (pc := 84) dX0_addBeast_84 rfl ?_
          refine e_iload_n (pc := 86) dX0_addBeast_86 rfl rfl ?_
          refine e_iast (pc := 87) dX0_addBeast_87 (fun w18 => ?_)
          refine e_aload_n (pc := 88) dX0_addBeast_88 rfl rfl ?_
          refine e_getR (pc := 89) dX0_addBeast_89 hs_X0_34 (fun r19 => ?_)
          refine e_iload (pc := 92) dX0_addBeast_92 rfl ?_
          refine e_iconst (pc := 94) dX0_addBeast_94 kc_0 ?_
          refine e_iast (pc := 95) dX0_addBeast_95 (fun w20 => ?_)
          refine e_aload_n (pc := 96) dX0_addBeast_96 rfl rfl ?_
          refine e_getR (pc := 97) dX0_addBeast_97 hs_X0_37 (fun r21 => ?_)
          refine e_iload (pc := 100) dX0_addBeast_100 rfl ?_
          refine e_bipush (pc := 102) dX0_addBeast_102 kb_m4 ?_
          refine e_iast (pc := 104) dX0_addBeast_104 (fun w22 => ?_)
          refine e_iload (pc := 105) dX0_addBeast_105 rfl ?_
          exact e_iret (pc := 107) dX0_addBeast_107 rfl rfl
        · refine e_bipush (pc := 32) dX0_addBeast_32 kb_m2 ?_
          exact e_iret (pc := 34) dX0_addBeast_34 rfl rfl
      · refine e_iconst (pc := 21) dX0_addBeast_21 kc_m1 ?_
        exact e_iret (pc := 22) dX0_addBeast_22 rfl rfl
def M_X0_moveBeast : aM := (yX0_moveBeast, cX0_moveBeast, 4, (some .int), 2, 43)
theorem ok_X0_moveBeast : a_okM M_X0_moveBeast 2 := ⟨⟨by decide +kernel, by decide +kernel⟩, by decide +kernel, a_in 277 (by decide +kernel) rfl, a_in 77 (by decide +kernel) rfl⟩
theorem dX0_moveBeast_0 : decode M_X0_moveBeast.2.1 0 = .ok (.aload_n 0, 1) := by decide +kernel
theorem dX0_moveBeast_1 : decode M_X0_moveBeast.2.1 1 = .ok (.iload_n 1, 1) := by decide +kernel
theorem dX0_moveBeast_2 : decode M_X0_moveBeast.2.1 2 = .ok (.invokevirtual 72, 3) := by decide +kernel
theorem dX0_moveBeast_5 : decode M_X0_moveBeast.2.1 5 = .ok (.ifCond .eq 10, 3) := by decide +kernel
theorem dX0_moveBeast_8 : decode M_X0_moveBeast.2.1 8 = .ok (.iload_n 2, 1) := by decide +kernel
theorem dX0_moveBeast_9 : decode M_X0_moveBeast.2.1 9 = .ok (.invokestatic 69, 3) := by decide +kernel
theorem dX0_moveBeast_12 : decode M_X0_moveBeast.2.1 12 = .ok (.ifCond .ne 5, 3) := by decide +kernel
theorem dX0_moveBeast_15 : decode M_X0_moveBeast.2.1 15 = .ok (.iconst (-1), 1) := by decide +kernel
theorem dX0_moveBeast_16 : decode M_X0_moveBeast.2.1 16 = .ok (.ireturn, 1) := by decide +kernel
theorem dX0_moveBeast_17 : decode M_X0_moveBeast.2.1 17 = .ok (.aload_n 0, 1) := by decide +kernel
theorem dX0_moveBeast_18 : decode M_X0_moveBeast.2.1 18 = .ok (.iload_n 1, 1) := by decide +kernel
theorem dX0_moveBeast_19 : decode M_X0_moveBeast.2.1 19 = .ok (.invokevirtual 75, 3) := by decide +kernel
theorem dX0_moveBeast_22 : decode M_X0_moveBeast.2.1 22 = .ok (.ifCond .ne 6, 3) := by decide +kernel
theorem dX0_moveBeast_25 : decode M_X0_moveBeast.2.1 25 = .ok (.bipush (-3), 2) := by decide +kernel
theorem dX0_moveBeast_27 : decode M_X0_moveBeast.2.1 27 = .ok (.ireturn, 1) := by decide +kernel
theorem dX0_moveBeast_28 : decode M_X0_moveBeast.2.1 28 = .ok (.aload_n 0, 1) := by decide +kernel
theorem dX0_moveBeast_29 : decode M_X0_moveBeast.2.1 29 = .ok (.getfield 31, 3) := by decide +kernel
theorem dX0_moveBeast_32 : decode M_X0_moveBeast.2.1 32 = .ok (.iload_n 1, 1) := by decide +kernel
theorem dX0_moveBeast_33 : decode M_X0_moveBeast.2.1 33 = .ok (.iaload, 1) := by decide +kernel
theorem dX0_moveBeast_34 : decode M_X0_moveBeast.2.1 34 = .ok (.istore_n 3, 1) := by decide +kernel
theorem dX0_moveBeast_35 : decode M_X0_moveBeast.2.1 35 = .ok (.aload_n 0, 1) := by decide +kernel
theorem dX0_moveBeast_36 : decode M_X0_moveBeast.2.1 36 = .ok (.getfield 31, 3) := by decide +kernel
theorem dX0_moveBeast_39 : decode M_X0_moveBeast.2.1 39 = .ok (.iload_n 1, 1) := by decide +kernel
theorem dX0_moveBeast_40 : decode M_X0_moveBeast.2.1 40 = .ok (.iload_n 2, 1) := by decide +kernel
theorem dX0_moveBeast_41 : decode M_X0_moveBeast.2.1 41 = .ok (.iastore, 1) := by decide +kernel
theorem dX0_moveBeast_42 : decode M_X0_moveBeast.2.1 42 = .ok (.iload_n 3, 1) := by decide +kernel
theorem dX0_moveBeast_43 : decode M_X0_moveBeast.2.1 43 = .ok (.ireturn, 1) := by decide +kernel
theorem hv_X0_72 : a_okV RX0 M_X0_hasBeast 72 := ⟨a_in 278 (by decide +kernel) rfl, a_in 279 (by decide +kernel) rfl, a_in 280 (by decide +kernel) rfl⟩
theorem hv_X0_75 : a_okV RX0 M_X0_isAlive 75 := ⟨a_in 283 (by decide +kernel) rfl, a_in 284 (by decide +kernel) rfl, a_in 285 (by decide +kernel) rfl⟩
def f_X0_moveBeast (a0 : Nat) (a1 : Int32) (a2 : Int32) (w : aW) : Option (Int32 × aW) :=
  cV 0 w a0 (bk (f_X0_hasBeast a0 a1 w) fun x2 w1 =>
  if x2 = (0 : Int32) then
    some ((-1 : Int32), w1)
  else
    bk (f_X3_isPlace a2 w1) fun x4 w3 =>
    if ¬ x4 = (0 : Int32) then
      cV 0 w3 a0 (bk (f_X0_isAlive a0 a1 w3) fun x6 w5 =>
      if ¬ x6 = (0 : Int32) then
        (gR 0 w5 a0 6).bind fun r7 =>
        (gA w5 r7 a1).bind fun x8 =>
        (gR 0 w5 a0 6).bind fun r9 =>
        (sA w5 r9 a1 a2).bind fun w10 =>
        some (x8, w10)
      else
        some ((-3 : Int32), w5))
    else
      some ((-1 : Int32), w3))
theorem s_X0_moveBeast (a0 : Nat) (a1 : Int32) (a2 : Int32) (w : aW) : Sp rvI M_X0_moveBeast [.ref a0, .int a1, .int a2] w (f_X0_moveBeast a0 a1 a2 w) := by
  refine e_entry [some (.ref a0), some (.int a1), some (.int a2), none] (by decide +kernel) (Nat.le_of_ble_eq_true rfl) (fun _ => rfl) ?_
  unfold f_X0_moveBeast
  refine e_aload_n (pc := 0) dX0_moveBeast_0 rfl rfl ?_
  refine e_iload_n (pc := 1) dX0_moveBeast_1 rfl rfl ?_
  refine e_callV (pc := 2) (av := [.int a1]) (S := []) (c0 := 0) rfl rfl ok_X0_hasBeast ⟨Nat.le_of_ble_eq_true rfl, Nat.le_of_ble_eq_true rfl⟩ hv_X0_72 dX0_moveBeast_2 (s_X0_hasBeast a0 a1 w) rfl rfl (Nat.le_of_ble_eq_true rfl) (fun x2 w1 => ?_)
  refine e_if_eq (pc := 5) (tgt := 15) dX0_moveBeast_5 (by decide) (fun _ => ?_) (fun _ => ?_)
  · refine e_iconst (pc := 15) dX0_moveBeast_15 kc_m1 ?_
    exact e_iret (pc := 16) dX0_moveBeast_16 rfl rfl
  · refine e_iload_n (pc := 8) dX0_moveBeast_8 rfl rfl ?_
    refine e_callN (pc := 9) (av := [.int a2]) (S := []) ok_X3_isPlace ⟨Nat.le_of_ble_eq_true rfl, Nat.le_of_ble_eq_true rfl⟩ hn_X0_69 dX0_moveBeast_9 (s_X3_isPlace a2 w1) rfl rfl (Nat.le_of_ble_eq_true rfl) (fun x4 w3 => ?_)
    refine e_if_ne (pc := 12) (tgt := 17) dX0_moveBeast_12 (by decide) (fun _ => ?_) (fun _ => ?_)
    · refine e_aload_n (pc := 17) dX0_moveBeast_17 rfl rfl ?_
      refine e_iload_n (pc := 18) dX0_moveBeast_18 rfl rfl ?_
      refine e_callV (pc := 19) (av := [.int a1]) (S := []) (c0 := 0) rfl rfl ok_X0_isAlive ⟨Nat.le_of_ble_eq_true rfl, Nat.le_of_ble_eq_true rfl⟩ hv_X0_75 dX0_moveBeast_19 (s_X0_isAlive a0 a1 w3) rfl rfl (Nat.le_of_ble_eq_true rfl) (fun x6 w5 => ?_)
      refine e_if_ne (pc := 22) (tgt := 28) dX0_moveBeast_22 (by decide) (fun _ => ?_) (fun _ => ?_)
      · refine e_aload_n (pc := 28) dX0_moveBeast_28 rfl rfl ?_
        refine e_getR (pc := 29) dX0_moveBeast_29 hs_X0_31 (fun r7 => ?_)
        refine e_iload_n (pc := 32) dX0_moveBeast_32 rfl rfl ?_
        refine e_iald (pc := 33) dX0_moveBeast_33 (fun x8 => ?_)
        refine e_istore_n (L' := [some (.ref a0), some (.int a1), some (.int a2), some (.int x8)]) (pc := 34) dX0_moveBeast_34 rfl (by decide) rfl ?_
        refine e_aload_n (pc := 35) dX0_moveBeast_35 rfl rfl ?_
        refine e_getR (pc := 36) dX0_moveBeast_36 hs_X0_31 (fun r9 => ?_)
        refine e_iload_n (pc := 39) dX0_moveBeast_39 rfl rfl ?_
        refine e_iload_n (pc := 40) dX0_moveBeast_40 rfl rfl ?_
        refine e_iast (pc := 41) dX0_moveBeast_41 (fun w10 => ?_)
        refine e_iload_n (pc := 42) dX0_moveBeast_42 rfl rfl ?_
        exact e_iret (pc := 43) dX0_moveBeast_43 rfl rfl
      · refine e_bipush (pc := 25) dX0_moveBeast_25 kb_m3 ?_
        exact e_iret (pc := 27) dX0_moveBeast_27 rfl rfl
    · refine e_iconst (pc := 15) dX0_moveBeast_15 kc_m1 ?_
      exact e_iret (pc := 16) dX0_moveBeast_16 rfl rfl
def M_X3_isPerson : aM := (yX3_isPerson, cX3_isPerson, 1, (some .boolean), 1, 22)
theorem ok_X3_isPerson : a_okM M_X3_isPerson 1 := ⟨⟨by decide +kernel, by decide +kernel⟩, by decide +kernel, a_in 293 (by decide +kernel) rfl, a_in 76 (by decide +kernel) rfl⟩
theorem dX3_isPerson_0 : decode M_X3_isPerson.2.1 0 = .ok (.iload_n 0, 1) := by decide +kernel
theorem dX3_isPerson_1 : decode M_X3_isPerson.2.1 1 = .ok (.iconst 0, 1) := by decide +kernel
theorem dX3_isPerson_2 : decode M_X3_isPerson.2.1 2 = .ok (.iconst 4, 1) := by decide +kernel
theorem dX3_isPerson_3 : decode M_X3_isPerson.2.1 3 = .ok (.invokestatic 87, 3) := by decide +kernel
theorem dX3_isPerson_6 : decode M_X3_isPerson.2.1 6 = .ok (.ireturn, 1) := by decide +kernel
def f_X3_isPerson (a0 : Int32) (w : aW) : Option (Int32 × aW) :=
  bk (f_X3_within a0 (0 : Int32) (4 : Int32) w) fun x2 w1 =>
  if ¬ (x2 = 0 ∨ x2 = 1) then none else some (x2, w1)
theorem s_X3_isPerson (a0 : Int32) (w : aW) : Sp rvI M_X3_isPerson [.int a0] w (f_X3_isPerson a0 w) := by
  refine e_entry [some (.int a0)] (by decide +kernel) (Nat.le_of_ble_eq_true rfl) (fun _ => rfl) ?_
  unfold f_X3_isPerson
  refine e_iload_n (pc := 0) dX3_isPerson_0 rfl rfl ?_
  refine e_iconst (pc := 1) dX3_isPerson_1 kc_0 ?_
  refine e_iconst (pc := 2) dX3_isPerson_2 kc_4 ?_
  refine e_callS (pc := 3) (av := [.int a0, .int (0 : Int32), .int (4 : Int32)]) (S := []) ok_X3_within ⟨Nat.le_of_ble_eq_true rfl, Nat.le_of_ble_eq_true rfl⟩ ht_X3_87 dX3_isPerson_3 (s_X3_within a0 (0 : Int32) (4 : Int32) w) rfl rfl (Nat.le_of_ble_eq_true rfl) (fun x2 w1 => ?_)
  refine e_chk (fun h3 => ?_)
  exact e_iret (pc := 6) dX3_isPerson_6 rfl (a_nb (Decidable.not_not.mp h3))
def M_X0_movePerson : aM := (yX0_movePerson, cX0_movePerson, 4, (some .int), 2, 42)
theorem ok_X0_movePerson : a_okM M_X0_movePerson 2 := ⟨⟨by decide +kernel, by decide +kernel⟩, by decide +kernel, a_in 297 (by decide +kernel) rfl, a_in 77 (by decide +kernel) rfl⟩
theorem dX0_movePerson_0 : decode M_X0_movePerson.2.1 0 = .ok (.iload_n 1, 1) := by decide +kernel
theorem dX0_movePerson_1 : decode M_X0_movePerson.2.1 1 = .ok (.invokestatic 78, 3) := by decide +kernel
theorem dX0_movePerson_4 : decode M_X0_movePerson.2.1 4 = .ok (.ifCond .eq 10, 3) := by decide +kernel
theorem dX0_movePerson_7 : decode M_X0_movePerson.2.1 7 = .ok (.iload_n 2, 1) := by decide +kernel
theorem dX0_movePerson_8 : decode M_X0_movePerson.2.1 8 = .ok (.invokestatic 69, 3) := by decide +kernel
theorem dX0_movePerson_11 : decode M_X0_movePerson.2.1 11 = .ok (.ifCond .ne 5, 3) := by decide +kernel
theorem dX0_movePerson_14 : decode M_X0_movePerson.2.1 14 = .ok (.iconst (-1), 1) := by decide +kernel
theorem dX0_movePerson_15 : decode M_X0_movePerson.2.1 15 = .ok (.ireturn, 1) := by decide +kernel
theorem dX0_movePerson_16 : decode M_X0_movePerson.2.1 16 = .ok (.aload_n 0, 1) := by decide +kernel
theorem dX0_movePerson_17 : decode M_X0_movePerson.2.1 17 = .ok (.getfield 43, 3) := by decide +kernel
theorem dX0_movePerson_20 : decode M_X0_movePerson.2.1 20 = .ok (.iload_n 1, 1) := by decide +kernel
theorem dX0_movePerson_21 : decode M_X0_movePerson.2.1 21 = .ok (.iaload, 1) := by decide +kernel
theorem dX0_movePerson_22 : decode M_X0_movePerson.2.1 22 = .ok (.istore_n 3, 1) := by decide +kernel
theorem dX0_movePerson_23 : decode M_X0_movePerson.2.1 23 = .ok (.aload_n 0, 1) := by decide +kernel
theorem dX0_movePerson_24 : decode M_X0_movePerson.2.1 24 = .ok (.getfield 43, 3) := by decide +kernel
theorem dX0_movePerson_27 : decode M_X0_movePerson.2.1 27 = .ok (.iload_n 1, 1) := by decide +kernel
theorem dX0_movePerson_28 : decode M_X0_movePerson.2.1 28 = .ok (.iload_n 2, 1) := by decide +kernel
theorem dX0_movePerson_29 : decode M_X0_movePerson.2.1 29 = .ok (.iastore, 1) := by decide +kernel
theorem dX0_movePerson_30 : decode M_X0_movePerson.2.1 30 = .ok (.iload_n 3, 1) := by decide +kernel
theorem dX0_movePerson_31 : decode M_X0_movePerson.2.1 31 = .ok (.ireturn, 1) := by decide +kernel
theorem hn_X0_78 : a_okN RX0 M_X3_isPerson 78 := ⟨⟨"WhoeverNamesIt", a_inN 291 (by decide +kernel) rfl⟩, a_in 292 (by decide +kernel) rfl⟩
def f_X0_movePerson (a0 : Nat) (a1 : Int32) (a2 : Int32) (w : aW) : Option (Int32 × aW) :=
  bk (f_X3_isPerson a1 w) fun x2 w1 =>
  if x2 = (0 : Int32) then
    some ((-1 : Int32), w1)
  else
    bk (f_X3_isPlace a2 w1) fun x4 w3 =>
    if ¬ x4 = (0 : Int32) then
      (gR 0 w3 a0 10).bind fun r5 =>
      (gA w3 r5 a1).bind fun x6 =>
      (gR 0 w3 a0 10).bind fun r7 =>
      (sA w3 r7 a1 a2).bind fun w8 =>
      some (x6, w8)
    else
      some ((-1 : Int32), w3)
theorem s_X0_movePerson (a0 : Nat) (a1 : Int32) (a2 : Int32) (w : aW) : Sp rvI M_X0_movePerson [.ref a0, .int a1, .int a2] w (f_X0_movePerson a0 a1 a2 w) := by
  refine e_entry [some (.ref a0), some (.int a1), some (.int a2), none] (by decide +kernel) (Nat.le_of_ble_eq_true rfl) (fun _ => rfl) ?_
  unfold f_X0_movePerson
  refine e_iload_n (pc := 0) dX0_movePerson_0 rfl rfl ?_
  refine e_callN (pc := 1) (av := [.int a1]) (S := []) ok_X3_isPerson ⟨Nat.le_of_ble_eq_true rfl, Nat.le_of_ble_eq_true rfl⟩ hn_X0_78 dX0_movePerson_1 (s_X3_isPerson a1 w) rfl rfl (Nat.le_of_ble_eq_true rfl) (fun x2 w1 => ?_)
  refine e_if_eq (pc := 4) (tgt := 14) dX0_movePerson_4 (by decide) (fun _ => ?_) (fun _ => ?_)
  · refine e_iconst (pc := 14) dX0_movePerson_14 kc_m1 ?_
    exact e_iret (pc := 15) dX0_movePerson_15 rfl rfl
  · refine e_iload_n (pc := 7) dX0_movePerson_7 rfl rfl ?_
    refine e_callN (pc := 8) (av := [.int a2]) (S := []) ok_X3_isPlace ⟨Nat.le_of_ble_eq_true rfl, Nat.le_of_ble_eq_true rfl⟩ hn_X0_69 dX0_movePerson_8 (s_X3_isPlace a2 w1) rfl rfl (Nat.le_of_ble_eq_true rfl) (fun x4 w3 => ?_)
    refine e_if_ne (pc := 11) (tgt := 16) dX0_movePerson_11 (by decide) (fun _ => ?_) (fun _ => ?_)
    · refine e_aload_n (pc := 16) dX0_movePerson_16 rfl rfl ?_
      refine e_getR (pc := 17) dX0_movePerson_17 hs_X0_43 (fun r5 => ?_)
      refine e_iload_n (pc := 20) dX0_movePerson_20 rfl rfl ?_
      refine e_iald (pc := 21) dX0_movePerson_21 (fun x6 => ?_)
      refine e_istore_n (L' := [some (.ref a0), some (.int a1), some (.int a2), some (.int x6)]) (pc := 22) dX0_movePerson_22 rfl (by decide) rfl ?_
      refine e_aload_n (pc := 23) dX0_movePerson_23 rfl rfl ?_
      refine e_getR (pc := 24) dX0_movePerson_24 hs_X0_43 (fun r7 => ?_)
      refine e_iload_n (pc := 27) dX0_movePerson_27 rfl rfl ?_
      refine e_iload_n (pc := 28) dX0_movePerson_28 rfl rfl ?_
      refine e_iast (pc := 29) dX0_movePerson_29 (fun w8 => ?_)
      refine e_iload_n (pc := 30) dX0_movePerson_30 rfl rfl ?_
      exact e_iret (pc := 31) dX0_movePerson_31 rfl rfl
    · refine e_iconst (pc := 14) dX0_movePerson_14 kc_m1 ?_
      exact e_iret (pc := 15) dX0_movePerson_15 rfl rfl
def M_X0_callBeast : aM := (yX0_callBeast, cX0_callBeast, 4, (some .int), 2, 43)
theorem ok_X0_callBeast : a_okM M_X0_callBeast 2 := ⟨⟨by decide +kernel, by decide +kernel⟩, by decide +kernel, a_in 305 (by decide +kernel) rfl, a_in 77 (by decide +kernel) rfl⟩
theorem dX0_callBeast_0 : decode M_X0_callBeast.2.1 0 = .ok (.iload_n 1, 1) := by decide +kernel
theorem dX0_callBeast_1 : decode M_X0_callBeast.2.1 1 = .ok (.invokestatic 78, 3) := by decide +kernel
theorem dX0_callBeast_4 : decode M_X0_callBeast.2.1 4 = .ok (.ifCond .eq 11, 3) := by decide +kernel
theorem dX0_callBeast_7 : decode M_X0_callBeast.2.1 7 = .ok (.aload_n 0, 1) := by decide +kernel
theorem dX0_callBeast_8 : decode M_X0_callBeast.2.1 8 = .ok (.iload_n 2, 1) := by decide +kernel
theorem dX0_callBeast_9 : decode M_X0_callBeast.2.1 9 = .ok (.invokevirtual 72, 3) := by decide +kernel
theorem dX0_callBeast_12 : decode M_X0_callBeast.2.1 12 = .ok (.ifCond .ne 5, 3) := by decide +kernel
theorem dX0_callBeast_15 : decode M_X0_callBeast.2.1 15 = .ok (.iconst (-1), 1) := by decide +kernel
theorem dX0_callBeast_16 : decode M_X0_callBeast.2.1 16 = .ok (.ireturn, 1) := by decide +kernel
theorem dX0_callBeast_17 : decode M_X0_callBeast.2.1 17 = .ok (.aload_n 0, 1) := by decide +kernel
theorem dX0_callBeast_18 : decode M_X0_callBeast.2.1 18 = .ok (.iload_n 2, 1) := by decide +kernel
theorem dX0_callBeast_19 : decode M_X0_callBeast.2.1 19 = .ok (.invokevirtual 75, 3) := by decide +kernel
theorem dX0_callBeast_22 : decode M_X0_callBeast.2.1 22 = .ok (.ifCond .ne 6, 3) := by decide +kernel
theorem dX0_callBeast_25 : decode M_X0_callBeast.2.1 25 = .ok (.bipush (-3), 2) := by decide +kernel
theorem dX0_callBeast_27 : decode M_X0_callBeast.2.1 27 = .ok (.ireturn, 1) := by decide +kernel
theorem dX0_callBeast_28 : decode M_X0_callBeast.2.1 28 = .ok (.aload_n 0, 1) := by decide +kernel
theorem dX0_callBeast_29 : decode M_X0_callBeast.2.1 29 = .ok (.getfield 37, 3) := by decide +kernel
theorem dX0_callBeast_32 : decode M_X0_callBeast.2.1 32 = .ok (.iload_n 2, 1) := by decide +kernel
theorem dX0_callBeast_33 : decode M_X0_callBeast.2.1 33 = .ok (.iaload, 1) := by decide +kernel
theorem dX0_callBeast_34 : decode M_X0_callBeast.2.1 34 = .ok (.istore_n 3, 1) := by decide +kernel
theorem dX0_callBeast_35 : decode M_X0_callBeast.2.1 35 = .ok (.aload_n 0, 1) := by decide +kernel
theorem dX0_callBeast_36 : decode M_X0_callBeast.2.1 36 = .ok (.getfield 37, 3) := by decide +kernel
theorem dX0_callBeast_39 : decode M_X0_callBeast.2.1 39 = .ok (.iload_n 2, 1) := by decide +kernel
theorem dX0_callBeast_40 : decode M_X0_callBeast.2.1 40 = .ok (.iload_n 1, 1) := by decide +kernel
theorem dX0_callBeast_41 : decode M_X0_callBeast.2.1 41 = .ok (.iastore, 1) := by decide +kernel
theorem dX0_callBeast_42 : decode M_X0_callBeast.2.1 42 = .ok (.iload_n 3, 1) := by decide +kernel
theorem dX0_callBeast_43 : decode M_X0_callBeast.2.1 43 = .ok (.ireturn, 1) := by decide +kernel
def f_X0_callBeast (a0 : Nat) (a1 : Int32) (a2 : Int32) (w : aW) : Option (Int32 × aW) :=
  bk (f_X3_isPerson a1 w) fun x2 w1 =>
  if x2 = (0 : Int32) then
    some ((-1 : Int32), w1)
  else
    cV 0 w1 a0 (bk (f_X0_hasBeast a0 a2 w1) fun x4 w3 =>
    if ¬ x4 = (0 : Int32) then
      cV 0 w3 a0 (bk (f_X0_isAlive a0 a2 w3) fun x6 w5 =>
      if ¬ x6 = (0 : Int32) then
        (gR 0 w5 a0 8).bind fun r7 =>
        (gA w5 r7 a2).bind fun x8 =>
        (gR 0 w5 a0 8).bind fun r9 =>
        (sA w5 r9 a2 a1).bind fun w10 =>
        some (x8, w10)
      else
        some ((-3 : Int32), w5))
    else
      some ((-1 : Int32), w3))
theorem s_X0_callBeast (a0 : Nat) (a1 : Int32) (a2 : Int32) (w : aW) : Sp rvI M_X0_callBeast [.ref a0, .int a1, .int a2] w (f_X0_callBeast a0 a1 a2 w) := by
  refine e_entry [some (.ref a0), some (.int a1), some (.int a2), none] (by decide +kernel) (Nat.le_of_ble_eq_true rfl) (fun _ => rfl) ?_
  unfold f_X0_callBeast
  refine e_iload_n (pc := 0) dX0_callBeast_0 rfl rfl ?_
  refine e_callN (pc := 1) (av := [.int a1]) (S := []) ok_X3_isPerson ⟨Nat.le_of_ble_eq_true rfl, Nat.le_of_ble_eq_true rfl⟩ hn_X0_78 dX0_callBeast_1 (s_X3_isPerson a1 w) rfl rfl (Nat.le_of_ble_eq_true rfl) (fun x2 w1 => ?_)
  refine e_if_eq (pc := 4) (tgt := 15) dX0_callBeast_4 (by decide) (fun _ => ?_) (fun _ => ?_)
  · refine e_iconst (pc := 15) dX0_callBeast_15 kc_m1 ?_
    exact e_iret (pc := 16) dX0_callBeast_16 rfl rfl
  · refine e_aload_n (pc := 7) dX0_callBeast_7 rfl rfl ?_
    refine e_iload_n (pc := 8) dX0_callBeast_8 rfl rfl ?_
    refine e_callV (pc := 9) (av := [.int a2]) (S := []) (c0 := 0) rfl rfl ok_X0_hasBeast ⟨Nat.le_of_ble_eq_true rfl, Nat.le_of_ble_eq_true rfl⟩ hv_X0_72 dX0_callBeast_9 (s_X0_hasBeast a0 a2 w1) rfl rfl (Nat.le_of_ble_eq_true rfl) (fun x4 w3 => ?_)
    refine e_if_ne (pc := 12) (tgt := 17) dX0_callBeast_12 (by decide) (fun _ => ?_) (fun _ => ?_)
    · refine e_aload_n (pc := 17) dX0_callBeast_17 rfl rfl ?_
      refine e_iload_n (pc := 18) dX0_callBeast_18 rfl rfl ?_
      refine e_callV (pc := 19) (av := [.int a2]) (S := []) (c0 := 0) rfl rfl ok_X0_isAlive ⟨Nat.le_of_ble_eq_true rfl, Nat.le_of_ble_eq_true rfl⟩ hv_X0_75 dX0_callBeast_19 (s_X0_isAlive a0 a2 w3) rfl rfl (Nat.le_of_ble_eq_true rfl) (fun x6 w5 => ?_)
      refine e_if_ne (pc := 22) (tgt := 28) dX0_callBeast_22 (by decide) (fun _ => ?_) (fun _ => ?_)
      · refine e_aload_n (pc := 28) dX0_callBeast_28 rfl rfl ?_
        refine e_getR (pc := 29) dX0_callBeast_29 hs_X0_37 (fun r7 => ?_)
        refine e_iload_n (pc := 32) dX0_callBeast_32 rfl rfl ?_
        refine e_iald (pc := 33) dX0_callBeast_33 (fun x8 => ?_)
        refine e_istore_n (L' := [some (.ref a0), some (.int a1), some (.int a2), some (.int x8)]) (pc := 34) dX0_callBeast_34 rfl (by decide) rfl ?_
        refine e_aload_n (pc := 35) dX0_callBeast_35 rfl rfl ?_
        refine e_getR (pc := 36) dX0_callBeast_36 hs_X0_37 (fun r9 => ?_)
        refine e_iload_n (pc := 39) dX0_callBeast_39 rfl rfl ?_
        refine e_iload_n (pc := 40) dX0_callBeast_40 rfl rfl ?_
        refine e_iast (pc := 41) dX0_callBeast_41 (fun w10 => ?_)
        refine e_iload_n (pc := 42) dX0_callBeast_42 rfl rfl ?_
        exact e_iret (pc := 43) dX0_callBeast_43 rfl rfl
      · refine e_bipush (pc := 25) dX0_callBeast_25 kb_m3 ?_
        exact e_iret (pc := 27) dX0_callBeast_27 rfl rfl
    · refine e_iconst (pc := 15) dX0_callBeast_15 kc_m1 ?_
      exact e_iret (pc := 16) dX0_callBeast_16 rfl rfl
def M_X0_freeBeast : aM := (yX0_freeBeast, cX0_freeBeast, 3, (some .int), 2, 43)
theorem ok_X0_freeBeast : a_okM M_X0_freeBeast 1 := ⟨⟨by decide +kernel, by decide +kernel⟩, by decide +kernel, a_in 309 (by decide +kernel) rfl, a_in 77 (by decide +kernel) rfl⟩
theorem dX0_freeBeast_0 : decode M_X0_freeBeast.2.1 0 = .ok (.aload_n 0, 1) := by decide +kernel
theorem dX0_freeBeast_1 : decode M_X0_freeBeast.2.1 1 = .ok (.iload_n 1, 1) := by decide +kernel
theorem dX0_freeBeast_2 : decode M_X0_freeBeast.2.1 2 = .ok (.invokevirtual 72, 3) := by decide +kernel
theorem dX0_freeBeast_5 : decode M_X0_freeBeast.2.1 5 = .ok (.ifCond .ne 5, 3) := by decide +kernel
theorem dX0_freeBeast_8 : decode M_X0_freeBeast.2.1 8 = .ok (.iconst (-1), 1) := by decide +kernel
theorem dX0_freeBeast_9 : decode M_X0_freeBeast.2.1 9 = .ok (.ireturn, 1) := by decide +kernel
theorem dX0_freeBeast_10 : decode M_X0_freeBeast.2.1 10 = .ok (.aload_n 0, 1) := by decide +kernel
theorem dX0_freeBeast_11 : decode M_X0_freeBeast.2.1 11 = .ok (.getfield 37, 3) := by decide +kernel
theorem dX0_freeBeast_14 : decode M_X0_freeBeast.2.1 14 = .ok (.iload_n 1, 1) := by decide +kernel
theorem dX0_freeBeast_15 : decode M_X0_freeBeast.2.1 15 = .ok (.iaload, 1) := by decide +kernel
theorem dX0_freeBeast_16 : decode M_X0_freeBeast.2.1 16 = .ok (.bipush (-4), 2) := by decide +kernel
theorem dX0_freeBeast_18 : decode M_X0_freeBeast.2.1 18 = .ok (.if_icmp .ne 6, 3) := by decide +kernel
theorem dX0_freeBeast_21 : decode M_X0_freeBeast.2.1 21 = .ok (.bipush (-3), 2) := by decide +kernel
theorem dX0_freeBeast_23 : decode M_X0_freeBeast.2.1 23 = .ok (.ireturn, 1) := by decide +kernel
theorem dX0_freeBeast_24 : decode M_X0_freeBeast.2.1 24 = .ok (.aload_n 0, 1) := by decide +kernel
theorem dX0_freeBeast_25 : decode M_X0_freeBeast.2.1 25 = .ok (.getfield 37, 3) := by decide +kernel
theorem dX0_freeBeast_28 : decode M_X0_freeBeast.2.1 28 = .ok (.iload_n 1, 1) := by decide +kernel
theorem dX0_freeBeast_29 : decode M_X0_freeBeast.2.1 29 = .ok (.iaload, 1) := by decide +kernel
theorem dX0_freeBeast_30 : decode M_X0_freeBeast.2.1 30 = .ok (.istore_n 2, 1) := by decide +kernel
theorem dX0_freeBeast_31 : decode M_X0_freeBeast.2.1 31 = .ok (.aload_n 0, 1) := by decide +kernel
theorem dX0_freeBeast_32 : decode M_X0_freeBeast.2.1 32 = .ok (.getfield 37, 3) := by decide +kernel
theorem dX0_freeBeast_35 : decode M_X0_freeBeast.2.1 35 = .ok (.iload_n 1, 1) := by decide +kernel
theorem dX0_freeBeast_36 : decode M_X0_freeBeast.2.1 36 = .ok (.bipush (-4), 2) := by decide +kernel
theorem dX0_freeBeast_38 : decode M_X0_freeBeast.2.1 38 = .ok (.iastore, 1) := by decide +kernel
theorem dX0_freeBeast_39 : decode M_X0_freeBeast.2.1 39 = .ok (.iload_n 2, 1) := by decide +kernel
theorem dX0_freeBeast_40 : decode M_X0_freeBeast.2.1 40 = .ok (.ireturn, 1) := by decide +kernel
def f_X0_freeBeast (a0 : Nat) (a1 : Int32) (w : aW) : Option (Int32 × aW) :=
  cV 0 w a0 (bk (f_X0_hasBeast a0 a1 w) fun x2 w1 =>
  if ¬ x2 = (0 : Int32) then
    (gR 0 w1 a0 8).bind fun r3 =>
    (gA w1 r3 a1).bind fun x4 =>
    if ¬ x4 = (-4 : Int32) then
      (gR 0 w1 a0 8).bind fun r5 =>
      (gA w1 r5 a1).bind fun x6 =>
      (gR 0 w1 a0 8).bind fun r7 =>
      (sA w1 r7 a1 (-4 : Int32)).bind fun w8 =>
      some (x6, w8)
    else
      some ((-3 : Int32), w1)
  else
    some ((-1 : Int32), w1))
theorem s_X0_freeBeast (a0 : Nat) (a1 : Int32) (w : aW) : Sp rvI M_X0_freeBeast [.ref a0, .int a1] w (f_X0_freeBeast a0 a1 w) := by
  refine e_entry [some (.ref a0), some (.int a1), none] (by decide +kernel) (Nat.le_of_ble_eq_true rfl) (fun _ => rfl) ?_
  unfold f_X0_freeBeast
  refine e_aload_n (pc := 0) dX0_freeBeast_0 rfl rfl ?_
  refine e_iload_n (pc := 1) dX0_freeBeast_1 rfl rfl ?_
  refine e_callV (pc := 2) (av := [.int a1]) (S := []) (c0 := 0) rfl rfl ok_X0_hasBeast ⟨Nat.le_of_ble_eq_true rfl, Nat.le_of_ble_eq_true rfl⟩ hv_X0_72 dX0_freeBeast_2 (s_X0_hasBeast a0 a1 w) rfl rfl (Nat.le_of_ble_eq_true rfl) (fun x2 w1 => ?_)
  refine e_if_ne (pc := 5) (tgt := 10) dX0_freeBeast_5 (by decide) (fun _ => ?_) (fun _ => ?_)
  · refine e_aload_n (pc := 10) dX0_freeBeast_10 rfl rfl ?_
    refine e_getR (pc := 11) dX0_freeBeast_11 hs_X0_37 (fun r3 => ?_)
    refine e_iload_n (pc := 14) dX0_freeBeast_14 rfl rfl ?_
    refine e_iald (pc := 15) dX0_freeBeast_15 (fun x4 => ?_)
    refine e_bipush (pc := 16) dX0_freeBeast_16 kb_m4 ?_
    refine e_icmp_ne (pc := 18) (tgt := 24) dX0_freeBeast_18 (by decide) (fun _ => ?_) (fun _ => ?_)
    · refine e_aload_n (pc := 24) dX0_freeBeast_24 rfl rfl ?_
      refine e_getR (pc := 25) dX0_freeBeast_25 hs_X0_37 (fun r5 => ?_)
      refine e_iload_n (pc := 28) dX0_freeBeast_28 rfl rfl ?_
      refine e_iald (pc := 29) dX0_freeBeast_29 (fun x6 => ?_)
      refine e_istore_n (L' := [some (.ref a0), some (.int a1), some (.int x6)]) (pc := 30) dX0_freeBeast_30 rfl (by decide) rfl ?_
      refine e_aload_n (pc := 31) dX0_freeBeast_31 rfl rfl ?_
      refine e_getR (pc := 32) dX0_freeBeast_32 hs_X0_37 (fun r7 => ?_)
      refine e_iload_n (pc := 35) dX0_freeBeast_35 rfl rfl ?_
      refine e_bipush (pc := 36) dX0_freeBeast_36 kb_m4 ?_
      refine e_iast (pc := 38) dX0_freeBeast_38 (fun w8 => ?_)
      refine e_iload_n (pc := 39) dX0_freeBeast_39 rfl rfl ?_
      exact e_iret (pc := 40) dX0_freeBeast_40 rfl rfl
    · refine e_bipush (pc := 21) dX0_freeBeast_21 kb_m3 ?_
      exact e_iret (pc := 23) dX0_freeBeast_23 rfl rfl
  · refine e_iconst (pc := 8) dX0_freeBeast_8 kc_m1 ?_
    exact e_iret (pc := 9) dX0_freeBeast_9 rfl rfl
def M_X0_changeTongue : aM := (yX0_changeTongue, cX0_changeTongue, 4, (some .int), 2, 42)
theorem ok_X0_changeTongue : a_okM M_X0_changeTongue 2 := ⟨⟨by decide +kernel, by decide +kernel⟩, by decide +kernel, a_in 290 (by decide +kernel) rfl, a_in 77 (by decide +kernel) rfl⟩
theorem dX0_changeTongue_0 : decode M_X0_changeTongue.2.1 0 = .ok (.iload_n 1, 1) := by decide +kernel
theorem dX0_changeTongue_1 : decode M_X0_changeTongue.2.1 1 = .ok (.invokestatic 78, 3) := by decide +kernel
theorem dX0_changeTongue_4 : decode M_X0_changeTongue.2.1 4 = .ok (.ifCond .eq 12, 3) := by decide +kernel
theorem dX0_changeTongue_7 : decode M_X0_changeTongue.2.1 7 = .ok (.iload_n 2, 1) := by decide +kernel
theorem dX0_changeTongue_8 : decode M_X0_changeTongue.2.1 8 = .ok (.iconst 0, 1) := by decide +kernel
theorem dX0_changeTongue_9 : decode M_X0_changeTongue.2.1 9 = .ok (.iconst 3, 1) := by decide +kernel
theorem dX0_changeTongue_10 : decode M_X0_changeTongue.2.1 10 = .ok (.invokestatic 58, 3) := by decide +kernel
theorem dX0_changeTongue_13 : decode M_X0_changeTongue.2.1 13 = .ok (.ifCond .ne 5, 3) := by decide +kernel
theorem dX0_changeTongue_16 : decode M_X0_changeTongue.2.1 16 = .ok (.iconst (-1), 1) := by decide +kernel
theorem dX0_changeTongue_17 : decode M_X0_changeTongue.2.1 17 = .ok (.ireturn, 1) := by decide +kernel
theorem dX0_changeTongue_18 : decode M_X0_changeTongue.2.1 18 = .ok (.aload_n 0, 1) := by decide +kernel
theorem dX0_changeTongue_19 : decode M_X0_changeTongue.2.1 19 = .ok (.getfield 46, 3) := by decide +kernel
theorem dX0_changeTongue_22 : decode M_X0_changeTongue.2.1 22 = .ok (.iload_n 1, 1) := by decide +kernel
theorem dX0_changeTongue_23 : decode M_X0_changeTongue.2.1 23 = .ok (.iaload, 1) := by decide +kernel
theorem dX0_changeTongue_24 : decode M_X0_changeTongue.2.1 24 = .ok (.istore_n 3, 1) := by decide +kernel
theorem dX0_changeTongue_25 : decode M_X0_changeTongue.2.1 25 = .ok (.aload_n 0, 1) := by decide +kernel
theorem dX0_changeTongue_26 : decode M_X0_changeTongue.2.1 26 = .ok (.getfield 46, 3) := by decide +kernel
theorem dX0_changeTongue_29 : decode M_X0_changeTongue.2.1 29 = .ok (.iload_n 1, 1) := by decide +kernel
theorem dX0_changeTongue_30 : decode M_X0_changeTongue.2.1 30 = .ok (.iload_n 2, 1) := by decide +kernel
theorem dX0_changeTongue_31 : decode M_X0_changeTongue.2.1 31 = .ok (.iastore, 1) := by decide +kernel
theorem dX0_changeTongue_32 : decode M_X0_changeTongue.2.1 32 = .ok (.iload_n 3, 1) := by decide +kernel
theorem dX0_changeTongue_33 : decode M_X0_changeTongue.2.1 33 = .ok (.ireturn, 1) := by decide +kernel
def f_X0_changeTongue (a0 : Nat) (a1 : Int32) (a2 : Int32) (w : aW) : Option (Int32 × aW) :=
  bk (f_X3_isPerson a1 w) fun x2 w1 =>
  if x2 = (0 : Int32) then
    some ((-1 : Int32), w1)
  else
    bk (f_X3_within a2 (0 : Int32) (3 : Int32) w1) fun x4 w3 =>
    if ¬ x4 = (0 : Int32) then
      (gR 0 w3 a0 11).bind fun r5 =>
      (gA w3 r5 a1).bind fun x6 =>
      (gR 0 w3 a0 11).bind fun r7 =>
      (sA w3 r7 a1 a2).bind fun w8 =>
      some (x6, w8)
    else
      some ((-1 : Int32), w3)
theorem s_X0_changeTongue (a0 : Nat) (a1 : Int32) (a2 : Int32) (w : aW) : Sp rvI M_X0_changeTongue [.ref a0, .int a1, .int a2] w (f_X0_changeTongue a0 a1 a2 w) := by
  refine e_entry [some (.ref a0), some (.int a1), some (.int a2), none] (by decide +kernel) (Nat.le_of_ble_eq_true rfl) (fun _ => rfl) ?_
  unfold f_X0_changeTongue
  refine e_iload_n (pc := 0) dX0_changeTongue_0 rfl rfl ?_
  refine e_callN (pc := 1) (av := [.int a1]) (S := []) ok_X3_isPerson ⟨Nat.le_of_ble_eq_true rfl, Nat.le_of_ble_eq_true rfl⟩ hn_X0_78 dX0_changeTongue_1 (s_X3_isPerson a1 w) rfl rfl (Nat.le_of_ble_eq_true rfl) (fun x2 w1 => ?_)
  refine e_if_eq (pc := 4) (tgt := 16) dX0_changeTongue_4 (by decide) (fun _ => ?_) (fun _ => ?_)
  · refine e_iconst (pc := 16) dX0_changeTongue_16 kc_m1 ?_
    exact e_iret (pc := 17) dX0_changeTongue_17 rfl rfl
  · refine e_iload_n (pc := 7) dX0_changeTongue_7 rfl rfl ?_
    refine e_iconst (pc := 8) dX0_changeTongue_8 kc_0 ?_
    refine e_iconst (pc := 9) dX0_changeTongue_9 kc_3 ?_
    refine e_callN (pc := 10) (av := [.int a2, .int (0 : Int32), .int (3 : Int32)]) (S := []) ok_X3_within ⟨Nat.le_of_ble_eq_true rfl, Nat.le_of_ble_eq_true rfl⟩ hn_X0_58 dX0_changeTongue_10 (s_X3_within a2 (0 : Int32) (3 : Int32) w1) rfl rfl (Nat.le_of_ble_eq_true rfl) (fun x4 w3 => ?_)
    refine e_if_ne (pc := 13) (tgt := 18) dX0_changeTongue_13 (by decide) (fun _ => ?_) (fun _ => ?_)
    · refine e_aload_n (pc := 18) dX0_changeTongue_18 rfl rfl ?_
      refine e_getR (pc := 19) dX0_changeTongue_19 hs_X0_46 (fun r5 => ?_)
      refine e_iload_n (pc := 22) dX0_changeTongue_22 rfl rfl ?_
      refine e_iald (pc := 23) dX0_changeTongue_23 (fun x6 => ?_)
      refine e_istore_n (L' := [some (.ref a0), some (.int a1), some (.int a2), some (.int x6)]) (pc := 24) dX0_changeTongue_24 rfl (by decide) rfl ?_
      refine e_aload_n (pc := 25) dX0_changeTongue_25 rfl rfl ?_
      refine e_getR (pc := 26) dX0_changeTongue_26 hs_X0_46 (fun r7 => ?_)
      refine e_iload_n (pc := 29) dX0_changeTongue_29 rfl rfl ?_
      refine e_iload_n (pc := 30) dX0_changeTongue_30 rfl rfl ?_
      refine e_iast (pc := 31) dX0_changeTongue_31 (fun w8 => ?_)
      refine e_iload_n (pc := 32) dX0_changeTongue_32 rfl rfl ?_
      exact e_iret (pc := 33) dX0_changeTongue_33 rfl rfl
    · refine e_iconst (pc := 16) dX0_changeTongue_16 kc_m1 ?_
      exact e_iret (pc := 17) dX0_changeTongue_17 rfl rfl
def M_X0_changeMeans : aM := (yX0_changeMeans, cX0_changeMeans, 4, (some .int), 2, 42)
theorem ok_X0_changeMeans : a_okM M_X0_changeMeans 2 := ⟨⟨by decide +kernel, by decide +kernel⟩, by decide +kernel, a_in 301 (by decide +kernel) rfl, a_in 77 (by decide +kernel) rfl⟩
theorem dX0_changeMeans_0 : decode M_X0_changeMeans.2.1 0 = .ok (.iload_n 1, 1) := by decide +kernel
theorem dX0_changeMeans_1 : decode M_X0_changeMeans.2.1 1 = .ok (.invokestatic 78, 3) := by decide +kernel
theorem dX0_changeMeans_4 : decode M_X0_changeMeans.2.1 4 = .ok (.ifCond .eq 14, 3) := by decide +kernel
theorem dX0_changeMeans_7 : decode M_X0_changeMeans.2.1 7 = .ok (.iload_n 2, 1) := by decide +kernel
theorem dX0_changeMeans_8 : decode M_X0_changeMeans.2.1 8 = .ok (.iconst 0, 1) := by decide +kernel
theorem dX0_changeMeans_9 : decode M_X0_changeMeans.2.1 9 = .ok (.sipush 999, 3) := by decide +kernel
theorem dX0_changeMeans_12 : decode M_X0_changeMeans.2.1 12 = .ok (.invokestatic 58, 3) := by decide +kernel
theorem dX0_changeMeans_15 : decode M_X0_changeMeans.2.1 15 = .ok (.ifCond .ne 5, 3) := by decide +kernel
theorem dX0_changeMeans_18 : decode M_X0_changeMeans.2.1 18 = .ok (.iconst (-1), 1) := by decide +kernel
theorem dX0_changeMeans_19 : decode M_X0_changeMeans.2.1 19 = .ok (.ireturn, 1) := by decide +kernel
theorem dX0_changeMeans_20 : decode M_X0_changeMeans.2.1 20 = .ok (.aload_n 0, 1) := by decide +kernel
theorem dX0_changeMeans_21 : decode M_X0_changeMeans.2.1 21 = .ok (.getfield 40, 3) := by decide +kernel
theorem dX0_changeMeans_24 : decode M_X0_changeMeans.2.1 24 = .ok (.iload_n 1, 1) := by decide +kernel
theorem dX0_changeMeans_25 : decode M_X0_changeMeans.2.1 25 = .ok (.iaload, 1) := by decide +kernel
theorem dX0_changeMeans_26 : decode M_X0_changeMeans.2.1 26 = .ok (.istore_n 3, 1) := by decide +kernel
theorem dX0_changeMeans_27 : decode M_X0_changeMeans.2.1 27 = .ok (.aload_n 0, 1) := by decide +kernel
theorem dX0_changeMeans_28 : decode M_X0_changeMeans.2.1 28 = .ok (.getfield 40, 3) := by decide +kernel
theorem dX0_changeMeans_31 : decode M_X0_changeMeans.2.1 31 = .ok (.iload_n 1, 1) := by decide +kernel
theorem dX0_changeMeans_32 : decode M_X0_changeMeans.2.1 32 = .ok (.iload_n 2, 1) := by decide +kernel
theorem dX0_changeMeans_33 : decode M_X0_changeMeans.2.1 33 = .ok (.iastore, 1) := by decide +kernel
theorem dX0_changeMeans_34 : decode M_X0_changeMeans.2.1 34 = .ok (.iload_n 3, 1) := by decide +kernel
theorem dX0_changeMeans_35 : decode M_X0_changeMeans.2.1 35 = .ok (.ireturn, 1) := by decide +kernel
def f_X0_changeMeans (a0 : Nat) (a1 : Int32) (a2 : Int32) (w : aW) : Option (Int32 × aW) :=
  bk (f_X3_isPerson a1 w) fun x2 w1 =>
  if x2 = (0 : Int32) then
    some ((-1 : Int32), w1)
  else
    bk (f_X3_within a2 (0 : Int32) (999 : Int32) w1) fun x4 w3 =>
    if ¬ x4 = (0 : Int32) then
      (gR 0 w3 a0 9).bind fun r5 =>
      (gA w3 r5 a1).bind fun x6 =>
      (gR 0 w3 a0 9).bind fun r7 =>
      (sA w3 r7 a1 a2).bind fun w8 =>
      some (x6, w8)
    else
      some ((-1 : Int32), w3)
theorem s_X0_changeMeans (a0 : Nat) (a1 : Int32) (a2 : Int32) (w : aW) : Sp rvI M_X0_changeMeans [.ref a0, .int a1, .int a2] w (f_X0_changeMeans a0 a1 a2 w) := by
  refine e_entry [some (.ref a0), some (.int a1), some (.int a2), none] (by decide +kernel) (Nat.le_of_ble_eq_true rfl) (fun _ => rfl) ?_
  unfold f_X0_changeMeans
  refine e_iload_n (pc := 0) dX0_changeMeans_0 rfl rfl ?_
  refine e_callN (pc := 1) (av := [.int a1]) (S := []) ok_X3_isPerson ⟨Nat.le_of_ble_eq_true rfl, Nat.le_of_ble_eq_true rfl⟩ hn_X0_78 dX0_changeMeans_1 (s_X3_isPerson a1 w) rfl rfl (Nat.le_of_ble_eq_true rfl) (fun x2 w1 => ?_)
  refine e_if_eq (pc := 4) (tgt := 18) dX0_changeMeans_4 (by decide) (fun _ => ?_) (fun _ => ?_)
  · refine e_iconst (pc := 18) dX0_changeMeans_18 kc_m1 ?_
    exact e_iret (pc := 19) dX0_changeMeans_19 rfl rfl
  · refine e_iload_n (pc := 7) dX0_changeMeans_7 rfl rfl ?_
    refine e_iconst (pc := 8) dX0_changeMeans_8 kc_0 ?_
    refine e_sipush (pc := 9) dX0_changeMeans_9 ks_999 ?_
    refine e_callN (pc := 12) (av := [.int a2, .int (0 : Int32), .int (999 : Int32)]) (S := []) ok_X3_within ⟨Nat.le_of_ble_eq_true rfl, Nat.le_of_ble_eq_true rfl⟩ hn_X0_58 dX0_changeMeans_12 (s_X3_within a2 (0 : Int32) (999 : Int32) w1) rfl rfl (Nat.le_of_ble_eq_true rfl) (fun x4 w3 => ?_)
    refine e_if_ne (pc := 15) (tgt := 20) dX0_changeMeans_15 (by decide) (fun _ => ?_) (fun _ => ?_)
    · refine e_aload_n (pc := 20) dX0_changeMeans_20 rfl rfl ?_
      refine e_getR (pc := 21) dX0_changeMeans_21 hs_X0_40 (fun r5 => ?_)
      refine e_iload_n (pc := 24) dX0_changeMeans_24 rfl rfl ?_
      refine e_iald (pc := 25) dX0_changeMeans_25 (fun x6 => ?_)
      refine e_istore_n (L' := [some (.ref a0), some (.int a1), some (.int a2), some (.int x6)]) (pc := 26) dX0_changeMeans_26 rfl (by decide) rfl ?_
      refine e_aload_n (pc := 27) dX0_changeMeans_27 rfl rfl ?_
      refine e_getR (pc := 28) dX0_changeMeans_28 hs_X0_40 (fun r7 => ?_)
      refine e_iload_n (pc := 31) dX0_changeMeans_31 rfl rfl ?_
      refine e_iload_n (pc := 32) dX0_changeMeans_32 rfl rfl ?_
      refine e_iast (pc := 33) dX0_changeMeans_33 (fun w8 => ?_)
      refine e_iload_n (pc := 34) dX0_changeMeans_34 rfl rfl ?_
      exact e_iret (pc := 35) dX0_changeMeans_35 rfl rfl
    · refine e_iconst (pc := 18) dX0_changeMeans_18 kc_m1 ?_
      exact e_iret (pc := 19) dX0_changeMeans_19 rfl rfl
def M_X0_nearestTo : aM := (yX0_nearestTo, cX0_nearestTo, 6, (some .int), 1, 21)
theorem ok_X0_nearestTo : a_okM M_X0_nearestTo 1 := ⟨⟨by decide +kernel, by decide +kernel⟩, by decide +kernel, a_in 325 (by decide +kernel) rfl, a_in 77 (by decide +kernel) rfl⟩
theorem dX0_nearestTo_0 : decode M_X0_nearestTo.2.1 0 = .ok (.iconst 0, 1) := by decide +kernel
theorem dX0_nearestTo_1 : decode M_X0_nearestTo.2.1 1 = .ok (.istore_n 2, 1) := by decide +kernel
theorem dX0_nearestTo_2 : decode M_X0_nearestTo.2.1 2 = .ok (.bipush 16, 2) := by decide +kernel
theorem dX0_nearestTo_4 : decode M_X0_nearestTo.2.1 4 = .ok (.istore_n 3, 1) := by decide +kernel
theorem dX0_nearestTo_5 : decode M_X0_nearestTo.2.1 5 = .ok (.iconst 0, 1) := by decide +kernel
theorem dX0_nearestTo_6 : decode M_X0_nearestTo.2.1 6 = .ok (.istore 4, 2) := by decide +kernel
theorem dX0_nearestTo_8 : decode M_X0_nearestTo.2.1 8 = .ok (.iload 4, 2) := by decide +kernel
theorem dX0_nearestTo_10 : decode M_X0_nearestTo.2.1 10 = .ok (.iconst 5, 1) := by decide +kernel
theorem dX0_nearestTo_11 : decode M_X0_nearestTo.2.1 11 = .ok (.if_icmp .ge 40, 3) := by decide +kernel
theorem dX0_nearestTo_14 : decode M_X0_nearestTo.2.1 14 = .ok (.aload_n 0, 1) := by decide +kernel
theorem dX0_nearestTo_15 : decode M_X0_nearestTo.2.1 15 = .ok (.getfield 43, 3) := by decide +kernel
theorem dX0_nearestTo_18 : decode M_X0_nearestTo.2.1 18 = .ok (.iload 4, 2) := by decide +kernel
theorem dX0_nearestTo_20 : decode M_X0_nearestTo.2.1 20 = .ok (.iaload, 1) := by decide +kernel
theorem dX0_nearestTo_21 : decode M_X0_nearestTo.2.1 21 = .ok (.aload_n 0, 1) := by decide +kernel
theorem dX0_nearestTo_22 : decode M_X0_nearestTo.2.1 22 = .ok (.getfield 31, 3) := by decide +kernel
theorem dX0_nearestTo_25 : decode M_X0_nearestTo.2.1 25 = .ok (.iload_n 1, 1) := by decide +kernel
theorem dX0_nearestTo_26 : decode M_X0_nearestTo.2.1 26 = .ok (.iaload, 1) := by decide +kernel
theorem dX0_nearestTo_27 : decode M_X0_nearestTo.2.1 27 = .ok (.isub, 1) := by decide +kernel
theorem dX0_nearestTo_28 : decode M_X0_nearestTo.2.1 28 = .ok (.invokestatic 159, 3) := by decide +kernel
theorem dX0_nearestTo_31 : decode M_X0_nearestTo.2.1 31 = .ok (.istore 5, 2) := by decide +kernel
theorem dX0_nearestTo_33 : decode M_X0_nearestTo.2.1 33 = .ok (.iload 5, 2) := by decide +kernel
theorem dX0_nearestTo_35 : decode M_X0_nearestTo.2.1 35 = .ok (.iload_n 3, 1) := by decide +kernel
theorem dX0_nearestTo_36 : decode M_X0_nearestTo.2.1 36 = .ok (.if_icmp .ge 9, 3) := by decide +kernel
theorem dX0_nearestTo_39 : decode M_X0_nearestTo.2.1 39 = .ok (.iload 5, 2) := by decide +kernel
theorem dX0_nearestTo_41 : decode M_X0_nearestTo.2.1 41 = .ok (.istore_n 3, 1) := by decide +kernel
theorem dX0_nearestTo_42 : decode M_X0_nearestTo.2.1 42 = .ok (.iload 4, 2) := by decide +kernel
theorem dX0_nearestTo_44 : decode M_X0_nearestTo.2.1 44 = .ok (.istore_n 2, 1) := by decide +kernel
theorem dX0_nearestTo_45 : decode M_X0_nearestTo.2.1 45 = .ok (.iinc 4 1, 3) := by decide +kernel
theorem dX0_nearestTo_48 : decode M_X0_nearestTo.2.1 48 = .ok (.goto (-40), 3) := by decide +kernel
theorem dX0_nearestTo_51 : decode M_X0_nearestTo.2.1 51 = .ok (.iload_n 2, 1) := by decide +kernel
theorem dX0_nearestTo_52 : decode M_X0_nearestTo.2.1 52 = .ok (.ireturn, 1) := by decide +kernel
theorem hm_X0_159 : Cond.methodLink RX0 159 Lib.Math.abs.name ∈ a_T ∧ Cond.static Lib.Math.abs.name ∈ a_T ∧ Cond.initialized "java/lang/Math" ∈ a_T ∧ Cond.code Lib.Math.abs.name Lib.Math.abs.code 1 (some .int) ∈ a_T := ⟨a_in 326 (by decide +kernel) rfl, a_in 327 (by decide +kernel) rfl, a_in 81 (by decide +kernel) rfl, a_in 328 (by decide +kernel) rfl⟩
def c_X0_nearestTo_8 (a0 : Nat) (a1 : Int32) (k8 : Int32 → Int32 → Int32 → aW → Option (Int32 × aW)) (b2 : Int32) (b3 : Int32) (b4 : Int32) (w : aW) : Option (Int32 × aW) :=
  if (5 : Int32) ≤ b4 then
    some (b2, w)
  else
    (gR 0 w a0 10).bind fun r1 =>
    (gA w r1 b4).bind fun x2 =>
    (gR 0 w a0 6).bind fun r3 =>
    (gA w r3 a1).bind fun x4 =>
    if b3 ≤ (if 0 ≤ (x2 - x4) then (x2 - x4) else 0 - (x2 - x4)) then
      k8 b2 b3 (b4 + 1) w
    else
      k8 b4 (if 0 ≤ (x2 - x4) then (x2 - x4) else 0 - (x2 - x4)) (b4 + 1) w
theorem t_X0_nearestTo_8 (a0 : Nat) (a1 : Int32) (k8 : Int32 → Int32 → Int32 → aW → Option (Int32 × aW)) (hk8 : ∀ (b2 : Int32) (b3 : Int32) (b4 : Int32) (w : aW), Ev rvI M_X0_nearestTo 8 [some (.ref a0), some (.int a1), some (.int b2), some (.int b3), some (.int b4), none] [] w (k8 b2 b3 b4 w)) (b2 : Int32) (b3 : Int32) (b4 : Int32) (w : aW) : Ev rvI M_X0_nearestTo 8 [some (.ref a0), some (.int a1), some (.int b2), some (.int b3), some (.int b4), none] [] w (c_X0_nearestTo_8 a0 a1 k8 b2 b3 b4 w) := by
  unfold c_X0_nearestTo_8
  refine e_iload (pc := 8) dX0_nearestTo_8 rfl ?_
  refine e_iconst (pc := 10) dX0_nearestTo_10 kc_5 ?_
  refine e_icmp_ge (pc := 11) (tgt := 51) dX0_nearestTo_11 (by decide) (fun _ => ?_) (fun _ => ?_)
  · refine e_iload_n (pc := 51) dX0_nearestTo_51 rfl rfl ?_
    exact e_iret (pc := 52) dX0_nearestTo_52 rfl rfl
  · refine e_aload_n (pc := 14) dX0_nearestTo_14 rfl rfl ?_
    refine e_getR (pc := 15) dX0_nearestTo_15 hs_X0_43 (fun r1 => ?_)
    refine e_iload (pc := 18) dX0_nearestTo_18 rfl ?_
    refine e_iald (pc := 20) dX0_nearestTo_20 (fun x2 => ?_)
    refine e_aload_n (pc := 21) dX0_nearestTo_21 rfl rfl ?_
    refine e_getR (pc := 22) dX0_nearestTo_22 hs_X0_31 (fun r3 => ?_)
    refine e_iload_n (pc := 25) dX0_nearestTo_25 rfl rfl ?_
    refine e_iald (pc := 26) dX0_nearestTo_26 (fun x4 => ?_)
    refine e_isub (pc := 27) dX0_nearestTo_27 ?_
    refine e_mabs (pc := 28) (Nat.le_of_ble_eq_true rfl) (Nat.le_of_ble_eq_true rfl) hm_X0_159 dX0_nearestTo_28 ?_
    refine e_istore (L' := [some (.ref a0), some (.int a1), some (.int b2), some (.int b3), some (.int b4), some (.int (if 0 ≤ (x2 - x4) then (x2 - x4) else 0 - (x2 - x4)))]) (pc := 31) dX0_nearestTo_31 (by decide) rfl ?_
    refine e_iload (pc := 33) dX0_nearestTo_33 rfl ?_
    refine e_iload_n (pc := 35) dX0_nearestTo_35 rfl rfl ?_
    refine e_icmp_ge (pc := 36) (tgt := 45) dX0_nearestTo_36 (by decide) (fun _ => ?_) (fun _ => ?_)
    · refine e_iinc (L' := [some (.ref a0), some (.int a1), some (.int b2), some (.int b3), some (.int (b4 + 1)), some (.int (if 0 ≤ (x2 - x4) then (x2 - x4) else 0 - (x2 - x4)))]) (pc := 45) (v := 1) dX0_nearestTo_45 (by decide) rfl kc_1 rfl ?_
      refine e_goto (pc := 48) (tgt := 8) dX0_nearestTo_48 (by decide) ?_
      refine e_forget (L2 := [some (.ref a0), some (.int a1), some (.int b2), some (.int b3), some (.int (b4 + 1)), none]) (And.intro rfl (And.intro rfl (And.intro rfl (And.intro rfl (And.intro rfl trivial))))) ?_
      exact hk8 b2 b3 (b4 + 1) w
    · refine e_iload (pc := 39) dX0_nearestTo_39 rfl ?_
      refine e_istore_n (L' := [some (.ref a0), some (.int a1), some (.int b2), some (.int (if 0 ≤ (x2 - x4) then (x2 - x4) else 0 - (x2 - x4))), some (.int b4), some (.int (if 0 ≤ (x2 - x4) then (x2 - x4) else 0 - (x2 - x4)))]) (pc := 41) dX0_nearestTo_41 rfl (by decide) rfl ?_
      refine e_iload (pc := 42) dX0_nearestTo_42 rfl ?_
      refine e_istore_n (L' := [some (.ref a0), some (.int a1), some (.int b4), some (.int (if 0 ≤ (x2 - x4) then (x2 - x4) else 0 - (x2 - x4))), some (.int b4), some (.int (if 0 ≤ (x2 - x4) then (x2 - x4) else 0 - (x2 - x4)))]) (pc := 44) dX0_nearestTo_44 rfl (by decide) rfl ?_
      refine e_iinc (L' := [some (.ref a0), some (.int a1), some (.int b4), some (.int (if 0 ≤ (x2 - x4) then (x2 - x4) else 0 - (x2 - x4))), some (.int (b4 + 1)), some (.int (if 0 ≤ (x2 - x4) then (x2 - x4) else 0 - (x2 - x4)))]) (pc := 45) (v := 1) dX0_nearestTo_45 (by decide) rfl kc_1 rfl ?_
      refine e_goto (pc := 48) (tgt := 8) dX0_nearestTo_48 (by decide) ?_
      refine e_forget (L2 := [some (.ref a0), some (.int a1), some (.int b4), some (.int (if 0 ≤ (x2 - x4) then (x2 - x4) else 0 - (x2 - x4))), some (.int (b4 + 1)), none]) (And.intro rfl (And.intro rfl (And.intro rfl (And.intro rfl (And.intro rfl trivial))))) ?_
      exact hk8 b4 (if 0 ≤ (x2 - x4) then (x2 - x4) else 0 - (x2 - x4)) (b4 + 1) w
def f_X0_nearestTo (a0 : Nat) (a1 : Int32) (w : aW) : Option (Int32 × aW) :=
  loop4 (c_X0_nearestTo_8 a0 a1) a_fuel (0 : Int32) (16 : Int32) (0 : Int32) w
theorem s_X0_nearestTo (a0 : Nat) (a1 : Int32) (w : aW) : Sp rvI M_X0_nearestTo [.ref a0, .int a1] w (f_X0_nearestTo a0 a1 w) := by
  refine e_entry [some (.ref a0), some (.int a1), none, none, none, none] (by decide +kernel) (Nat.le_of_ble_eq_true rfl) (fun _ => rfl) ?_
  unfold f_X0_nearestTo
  refine e_iconst (pc := 0) dX0_nearestTo_0 kc_0 ?_
  refine e_istore_n (L' := [some (.ref a0), some (.int a1), some (.int (0 : Int32)), none, none, none]) (pc := 1) dX0_nearestTo_1 rfl (by decide) rfl ?_
  refine e_bipush (pc := 2) dX0_nearestTo_2 kb_16 ?_
  refine e_istore_n (L' := [some (.ref a0), some (.int a1), some (.int (0 : Int32)), some (.int (16 : Int32)), none, none]) (pc := 4) dX0_nearestTo_4 rfl (by decide) rfl ?_
  refine e_iconst (pc := 5) dX0_nearestTo_5 kc_0 ?_
  refine e_istore (L' := [some (.ref a0), some (.int a1), some (.int (0 : Int32)), some (.int (16 : Int32)), some (.int (0 : Int32)), none]) (pc := 6) dX0_nearestTo_6 (by decide) rfl ?_
  exact e_loop4 (L := fun b2 b3 b4 => [some (.ref a0), some (.int a1), some (.int b2), some (.int b3), some (.int b4), none]) (S := fun b2 b3 b4 => []) (fun kf hkf => t_X0_nearestTo_8 a0 a1  kf hkf) _ (0 : Int32) (16 : Int32) (0 : Int32) w
def M_X0_richest : aM := (yX0_richest, cX0_richest, 3, (some .int), 0, 0)
theorem ok_X0_richest : a_okM M_X0_richest 0 := ⟨⟨by decide +kernel, by decide +kernel⟩, by decide +kernel, a_in 332 (by decide +kernel) rfl, a_in 77 (by decide +kernel) rfl⟩
theorem dX0_richest_0 : decode M_X0_richest.2.1 0 = .ok (.iconst 0, 1) := by decide +kernel
theorem dX0_richest_1 : decode M_X0_richest.2.1 1 = .ok (.istore_n 1, 1) := by decide +kernel
theorem dX0_richest_2 : decode M_X0_richest.2.1 2 = .ok (.iconst 1, 1) := by decide +kernel
theorem dX0_richest_3 : decode M_X0_richest.2.1 3 = .ok (.istore_n 2, 1) := by decide +kernel
theorem dX0_richest_4 : decode M_X0_richest.2.1 4 = .ok (.iload_n 2, 1) := by decide +kernel
theorem dX0_richest_5 : decode M_X0_richest.2.1 5 = .ok (.iconst 5, 1) := by decide +kernel
theorem dX0_richest_6 : decode M_X0_richest.2.1 6 = .ok (.if_icmp .ge 26, 3) := by decide +kernel
theorem dX0_richest_9 : decode M_X0_richest.2.1 9 = .ok (.aload_n 0, 1) := by decide +kernel
theorem dX0_richest_10 : decode M_X0_richest.2.1 10 = .ok (.getfield 40, 3) := by decide +kernel
theorem dX0_richest_13 : decode M_X0_richest.2.1 13 = .ok (.iload_n 2, 1) := by decide +kernel
theorem dX0_richest_14 : decode M_X0_richest.2.1 14 = .ok (.iaload, 1) := by decide +kernel
theorem dX0_richest_15 : decode M_X0_richest.2.1 15 = .ok (.aload_n 0, 1) := by decide +kernel
theorem dX0_richest_16 : decode M_X0_richest.2.1 16 = .ok (.getfield 40, 3) := by decide +kernel
theorem dX0_richest_19 : decode M_X0_richest.2.1 19 = .ok (.iload_n 1, 1) := by decide +kernel
theorem dX0_richest_20 : decode M_X0_richest.2.1 20 = .ok (.iaload, 1) := by decide +kernel
theorem dX0_richest_21 : decode M_X0_richest.2.1 21 = .ok (.if_icmp .le 5, 3) := by decide +kernel
theorem dX0_richest_24 : decode M_X0_richest.2.1 24 = .ok (.iload_n 2, 1) := by decide +kernel
theorem dX0_richest_25 : decode M_X0_richest.2.1 25 = .ok (.istore_n 1, 1) := by decide +kernel
theorem dX0_richest_26 : decode M_X0_richest.2.1 26 = .ok (.iinc 2 1, 3) := by decide +kernel
theorem dX0_richest_29 : decode M_X0_richest.2.1 29 = .ok (.goto (-25), 3) := by decide +kernel
theorem dX0_richest_32 : decode M_X0_richest.2.1 32 = .ok (.iload_n 1, 1) := by decide +kernel
theorem dX0_richest_33 : decode M_X0_richest.2.1 33 = .ok (.ireturn, 1) := by decide +kernel
def c_X0_richest_4 (a0 : Nat) (k4 : Int32 → Int32 → aW → Option (Int32 × aW)) (b1 : Int32) (b2 : Int32) (w : aW) : Option (Int32 × aW) :=
  if (5 : Int32) ≤ b2 then
    some (b1, w)
  else
    (gR 0 w a0 9).bind fun r1 =>
    (gA w r1 b2).bind fun x2 =>
    (gR 0 w a0 9).bind fun r3 =>
    (gA w r3 b1).bind fun x4 =>
    if x2 ≤ x4 then
      k4 b1 (b2 + 1) w
    else
      k4 b2 (b2 + 1) w
theorem t_X0_richest_4 (a0 : Nat) (k4 : Int32 → Int32 → aW → Option (Int32 × aW)) (hk4 : ∀ (b1 : Int32) (b2 : Int32) (w : aW), Ev rvI M_X0_richest 4 [some (.ref a0), some (.int b1), some (.int b2)] [] w (k4 b1 b2 w)) (b1 : Int32) (b2 : Int32) (w : aW) : Ev rvI M_X0_richest 4 [some (.ref a0), some (.int b1), some (.int b2)] [] w (c_X0_richest_4 a0 k4 b1 b2 w) := by
  unfold c_X0_richest_4
  refine e_iload_n (pc := 4) dX0_richest_4 rfl rfl ?_
  refine e_iconst (pc := 5) dX0_richest_5 kc_5 ?_
  refine e_icmp_ge (pc := 6) (tgt := 32) dX0_richest_6 (by decide) (fun _ => ?_) (fun _ => ?_)
  · refine e_iload_n (pc := 32) dX0_richest_32 rfl rfl ?_
    exact e_iret (pc := 33) dX0_richest_33 rfl rfl
  · refine e_aload_n (pc := 9) dX0_richest_9 rfl rfl ?_
    refine e_getR (pc := 10) dX0_richest_10 hs_X0_40 (fun r1 => ?_)
    refine e_iload_n (pc := 13) dX0_richest_13 rfl rfl ?_
    refine e_iald (pc := 14) dX0_richest_14 (fun x2 => ?_)
    refine e_aload_n (pc := 15) dX0_richest_15 rfl rfl ?_
    refine e_getR (pc := 16) dX0_richest_16 hs_X0_40 (fun r3 => ?_)
    refine e_iload_n (pc := 19) dX0_richest_19 rfl rfl ?_
    refine e_iald (pc := 20) dX0_richest_20 (fun x4 => ?_)
    refine e_icmp_le (pc := 21) (tgt := 26) dX0_richest_21 (by decide) (fun _ => ?_) (fun _ => ?_)
    · refine e_iinc (L' := [some (.ref a0), some (.int b1), some (.int (b2 + 1))]) (pc := 26) (v := 1) dX0_richest_26 (by decide) rfl kc_1 rfl ?_
      refine e_goto (pc := 29) (tgt := 4) dX0_richest_29 (by decide) ?_
      exact hk4 b1 (b2 + 1) w
    · refine e_iload_n (pc := 24) dX0_richest_24 rfl rfl ?_
      refine e_istore_n (L' := [some (.ref a0), some (.int b2), some (.int b2)]) (pc := 25) dX0_richest_25 rfl (by decide) rfl ?_
      refine e_iinc (L' := [some (.ref a0), some (.int b2), some (.int (b2 + 1))]) (pc := 26) (v := 1) dX0_richest_26 (by decide) rfl kc_1 rfl ?_
      refine e_goto (pc := 29) (tgt := 4) dX0_richest_29 (by decide) ?_
      exact hk4 b2 (b2 + 1) w
def f_X0_richest (a0 : Nat) (w : aW) : Option (Int32 × aW) :=
  loop3 (c_X0_richest_4 a0) a_fuel (0 : Int32) (1 : Int32) w
theorem s_X0_richest (a0 : Nat) (w : aW) : Sp rvI M_X0_richest [.ref a0] w (f_X0_richest a0 w) := by
  refine e_entry [some (.ref a0), none, none] (by decide +kernel) (Nat.le_of_ble_eq_true rfl) (fun _ => rfl) ?_
  unfold f_X0_richest
  refine e_iconst (pc := 0) dX0_richest_0 kc_0 ?_
  refine e_istore_n (L' := [some (.ref a0), some (.int (0 : Int32)), none]) (pc := 1) dX0_richest_1 rfl (by decide) rfl ?_
  refine e_iconst (pc := 2) dX0_richest_2 kc_1 ?_
  refine e_istore_n (L' := [some (.ref a0), some (.int (0 : Int32)), some (.int (1 : Int32))]) (pc := 3) dX0_richest_3 rfl (by decide) rfl ?_
  exact e_loop3 (L := fun b1 b2 => [some (.ref a0), some (.int b1), some (.int b2)]) (S := fun b1 b2 => []) (fun kf hkf => t_X0_richest_4 a0  kf hkf) _ (0 : Int32) (1 : Int32) w
def M_X0_awayFrom : aM := (yX0_awayFrom, cX0_awayFrom, 2, (some .int), 0, 0)
theorem ok_X0_awayFrom : a_okM M_X0_awayFrom 2 := ⟨⟨by decide +kernel, by decide +kernel⟩, by decide +kernel, a_in 335 (by decide +kernel) rfl, a_in 77 (by decide +kernel) rfl⟩
theorem dX0_awayFrom_0 : decode M_X0_awayFrom.2.1 0 = .ok (.iload_n 0, 1) := by decide +kernel
theorem dX0_awayFrom_1 : decode M_X0_awayFrom.2.1 1 = .ok (.iload_n 1, 1) := by decide +kernel
theorem dX0_awayFrom_2 : decode M_X0_awayFrom.2.1 2 = .ok (.if_icmp .gt 8, 3) := by decide +kernel
theorem dX0_awayFrom_5 : decode M_X0_awayFrom.2.1 5 = .ok (.bipush 15, 2) := by decide +kernel
theorem dX0_awayFrom_7 : decode M_X0_awayFrom.2.1 7 = .ok (.goto 4, 3) := by decide +kernel
theorem dX0_awayFrom_10 : decode M_X0_awayFrom.2.1 10 = .ok (.iconst 0, 1) := by decide +kernel
theorem dX0_awayFrom_11 : decode M_X0_awayFrom.2.1 11 = .ok (.ireturn, 1) := by decide +kernel
def f_X0_awayFrom (a0 : Int32) (a1 : Int32) (w : aW) : Option (Int32 × aW) :=
  if a1 < a0 then
    some ((0 : Int32), w)
  else
    some ((15 : Int32), w)
theorem s_X0_awayFrom (a0 : Int32) (a1 : Int32) (w : aW) : Sp rvI M_X0_awayFrom [.int a0, .int a1] w (f_X0_awayFrom a0 a1 w) := by
  refine e_entry [some (.int a0), some (.int a1)] (by decide +kernel) (Nat.le_of_ble_eq_true rfl) (fun _ => rfl) ?_
  unfold f_X0_awayFrom
  refine e_iload_n (pc := 0) dX0_awayFrom_0 rfl rfl ?_
  refine e_iload_n (pc := 1) dX0_awayFrom_1 rfl rfl ?_
  refine e_icmp_gt (pc := 2) (tgt := 10) dX0_awayFrom_2 (by decide) (fun _ => ?_) (fun _ => ?_)
  · refine e_iconst (pc := 10) dX0_awayFrom_10 kc_0 ?_
    exact e_iret (pc := 11) dX0_awayFrom_11 rfl rfl
  · refine e_bipush (pc := 5) dX0_awayFrom_5 kb_15 ?_
    refine e_goto (pc := 7) (tgt := 11) dX0_awayFrom_7 (by decide) ?_
    exact e_iret (pc := 11) dX0_awayFrom_11 rfl rfl
def M_X0_wantedPlace : aM := (yX0_wantedPlace, cX0_wantedPlace, 4, (some .int), 2, 46)
theorem ok_X0_wantedPlace : a_okM M_X0_wantedPlace 2 := ⟨⟨by decide +kernel, by decide +kernel⟩, by decide +kernel, a_in 321 (by decide +kernel) rfl, a_in 77 (by decide +kernel) rfl⟩
theorem dX0_wantedPlace_0 : decode M_X0_wantedPlace.2.1 0 = .ok (.aload_n 0, 1) := by decide +kernel
theorem dX0_wantedPlace_1 : decode M_X0_wantedPlace.2.1 1 = .ok (.iload_n 1, 1) := by decide +kernel
theorem dX0_wantedPlace_2 : decode M_X0_wantedPlace.2.1 2 = .ok (.invokevirtual 75, 3) := by decide +kernel
theorem dX0_wantedPlace_5 : decode M_X0_wantedPlace.2.1 5 = .ok (.ifCond .ne 6, 3) := by decide +kernel
theorem dX0_wantedPlace_8 : decode M_X0_wantedPlace.2.1 8 = .ok (.bipush (-4), 2) := by decide +kernel
theorem dX0_wantedPlace_10 : decode M_X0_wantedPlace.2.1 10 = .ok (.ireturn, 1) := by decide +kernel
theorem dX0_wantedPlace_11 : decode M_X0_wantedPlace.2.1 11 = .ok (.aload_n 0, 1) := by decide +kernel
theorem dX0_wantedPlace_12 : decode M_X0_wantedPlace.2.1 12 = .ok (.getfield 28, 3) := by decide +kernel
theorem dX0_wantedPlace_15 : decode M_X0_wantedPlace.2.1 15 = .ok (.iload_n 1, 1) := by decide +kernel
theorem dX0_wantedPlace_16 : decode M_X0_wantedPlace.2.1 16 = .ok (.iaload, 1) := by decide +kernel
theorem dX0_wantedPlace_17 : decode M_X0_wantedPlace.2.1 17 = .ok (.iconst 2, 1) := by decide +kernel
theorem dX0_wantedPlace_18 : decode M_X0_wantedPlace.2.1 18 = .ok (.iadd, 1) := by decide +kernel
theorem dX0_wantedPlace_19 : decode M_X0_wantedPlace.2.1 19 = .ok (.istore_n 3, 1) := by decide +kernel
theorem dX0_wantedPlace_20 : decode M_X0_wantedPlace.2.1 20 = .ok (.aload_n 0, 1) := by decide +kernel
theorem dX0_wantedPlace_21 : decode M_X0_wantedPlace.2.1 21 = .ok (.getfield 24, 3) := by decide +kernel
theorem dX0_wantedPlace_24 : decode M_X0_wantedPlace.2.1 24 = .ok (.iload_n 1, 1) := by decide +kernel
theorem dX0_wantedPlace_25 : decode M_X0_wantedPlace.2.1 25 = .ok (.iaload, 1) := by decide +kernel
theorem dX0_wantedPlace_26 : decode M_X0_wantedPlace.2.1 26 = .ok (.tableswitch 238 1 7 #[42, 68, 99, 135, 172, 109, 192], 42) := by decide +kernel
theorem dX0_wantedPlace_68 : decode M_X0_wantedPlace.2.1 68 = .ok (.iload_n 3, 1) := by decide +kernel
theorem dX0_wantedPlace_69 : decode M_X0_wantedPlace.2.1 69 = .ok (.ifCond .le 22, 3) := by decide +kernel
theorem dX0_wantedPlace_72 : decode M_X0_wantedPlace.2.1 72 = .ok (.iload_n 2, 1) := by decide +kernel
theorem dX0_wantedPlace_73 : decode M_X0_wantedPlace.2.1 73 = .ok (.iload_n 3, 1) := by decide +kernel
theorem dX0_wantedPlace_74 : decode M_X0_wantedPlace.2.1 74 = .ok (.irem, 1) := by decide +kernel
theorem dX0_wantedPlace_75 : decode M_X0_wantedPlace.2.1 75 = .ok (.ifCond .ne 16, 3) := by decide +kernel
theorem dX0_wantedPlace_78 : decode M_X0_wantedPlace.2.1 78 = .ok (.aload_n 0, 1) := by decide +kernel
theorem dX0_wantedPlace_79 : decode M_X0_wantedPlace.2.1 79 = .ok (.getfield 43, 3) := by decide +kernel
theorem dX0_wantedPlace_82 : decode M_X0_wantedPlace.2.1 82 = .ok (.aload_n 0, 1) := by decide +kernel
theorem dX0_wantedPlace_83 : decode M_X0_wantedPlace.2.1 83 = .ok (.iload_n 1, 1) := by decide +kernel
theorem dX0_wantedPlace_84 : decode M_X0_wantedPlace.2.1 84 = .ok (.invokevirtual 109, 3) := by decide +kernel
theorem dX0_wantedPlace_87 : decode M_X0_wantedPlace.2.1 87 = .ok (.iaload, 1) := by decide +kernel
theorem dX0_wantedPlace_88 : decode M_X0_wantedPlace.2.1 88 = .ok (.goto 5, 3) := by decide +kernel
theorem dX0_wantedPlace_91 : decode M_X0_wantedPlace.2.1 91 = .ok (.bipush (-4), 2) := by decide +kernel
theorem dX0_wantedPlace_93 : decode M_X0_wantedPlace.2.1 93 = .ok (.ireturn, 1) := by decide +kernel
theorem dX0_wantedPlace_94 : decode M_X0_wantedPlace.2.1 94 = .ok (.aload_n 0, 1) := by decide +kernel
theorem dX0_wantedPlace_95 : decode M_X0_wantedPlace.2.1 95 = .ok (.getfield 34, 3) := by decide +kernel
theorem dX0_wantedPlace_98 : decode M_X0_wantedPlace.2.1 98 = .ok (.iload_n 1, 1) := by decide +kernel
theorem dX0_wantedPlace_99 : decode M_X0_wantedPlace.2.1 99 = .ok (.iaload, 1) := by decide +kernel
theorem dX0_wantedPlace_100 : decode M_X0_wantedPlace.2.1 100 = .ok (.aload_n 0, 1) := by decide +kernel
theorem dX0_wantedPlace_101 : decode M_X0_wantedPlace.2.1 101 = .ok (.getfield 28, 3) := by decide +kernel
theorem dX0_wantedPlace_104 : decode M_X0_wantedPlace.2.1 104 = .ok (.iload_n 1, 1) := by decide +kernel
theorem dX0_wantedPlace_105 : decode M_X0_wantedPlace.2.1 105 = .ok (.iaload, 1) := by decide +kernel
theorem dX0_wantedPlace_106 : decode M_X0_wantedPlace.2.1 106 = .ok (.if_icmp .lt 16, 3) := by decide +kernel
theorem dX0_wantedPlace_109 : decode M_X0_wantedPlace.2.1 109 = .ok (.aload_n 0, 1) := by decide +kernel
theorem dX0_wantedPlace_110 : decode M_X0_wantedPlace.2.1 110 = .ok (.getfield 43, 3) := by decide +kernel
theorem dX0_wantedPlace_113 : decode M_X0_wantedPlace.2.1 113 = .ok (.aload_n 0, 1) := by decide +kernel
theorem dX0_wantedPlace_114 : decode M_X0_wantedPlace.2.1 114 = .ok (.iload_n 1, 1) := by decide +kernel
theorem dX0_wantedPlace_115 : decode M_X0_wantedPlace.2.1 115 = .ok (.invokevirtual 109, 3) := by decide +kernel
theorem dX0_wantedPlace_118 : decode M_X0_wantedPlace.2.1 118 = .ok (.iaload, 1) := by decide +kernel
theorem dX0_wantedPlace_119 : decode M_X0_wantedPlace.2.1 119 = .ok (.goto 5, 3) := by decide +kernel
theorem dX0_wantedPlace_122 : decode M_X0_wantedPlace.2.1 122 = .ok (.bipush (-4), 2) := by decide +kernel
theorem dX0_wantedPlace_124 : decode M_X0_wantedPlace.2.1 124 = .ok (.ireturn, 1) := by decide +kernel
theorem dX0_wantedPlace_125 : decode M_X0_wantedPlace.2.1 125 = .ok (.aload_n 0, 1) := by decide +kernel
theorem dX0_wantedPlace_126 : decode M_X0_wantedPlace.2.1 126 = .ok (.getfield 43, 3) := by decide +kernel
theorem dX0_wantedPlace_129 : decode M_X0_wantedPlace.2.1 129 = .ok (.aload_n 0, 1) := by decide +kernel
theorem dX0_wantedPlace_130 : decode M_X0_wantedPlace.2.1 130 = .ok (.invokevirtual 112, 3) := by decide +kernel
theorem dX0_wantedPlace_133 : decode M_X0_wantedPlace.2.1 133 = .ok (.iaload, 1) := by decide +kernel
theorem dX0_wantedPlace_134 : decode M_X0_wantedPlace.2.1 134 = .ok (.ireturn, 1) := by decide +kernel
theorem dX0_wantedPlace_135 : decode M_X0_wantedPlace.2.1 135 = .ok (.aload_n 0, 1) := by decide +kernel
theorem dX0_wantedPlace_136 : decode M_X0_wantedPlace.2.1 136 = .ok (.getfield 34, 3) := by decide +kernel
theorem dX0_wantedPlace_139 : decode M_X0_wantedPlace.2.1 139 = .ok (.iload_n 1, 1) := by decide +kernel
theorem dX0_wantedPlace_140 : decode M_X0_wantedPlace.2.1 140 = .ok (.iaload, 1) := by decide +kernel
theorem dX0_wantedPlace_141 : decode M_X0_wantedPlace.2.1 141 = .ok (.iconst 2, 1) := by decide +kernel
theorem dX0_wantedPlace_142 : decode M_X0_wantedPlace.2.1 142 = .ok (.irem, 1) := by decide +kernel
theorem dX0_wantedPlace_143 : decode M_X0_wantedPlace.2.1 143 = .ok (.ifCond .ne 15, 3) := by decide +kernel
theorem dX0_wantedPlace_146 : decode M_X0_wantedPlace.2.1 146 = .ok (.aload_n 0, 1) := by decide +kernel
theorem dX0_wantedPlace_147 : decode M_X0_wantedPlace.2.1 147 = .ok (.getfield 43, 3) := by decide +kernel
theorem dX0_wantedPlace_150 : decode M_X0_wantedPlace.2.1 150 = .ok (.aload_n 0, 1) := by decide +kernel
theorem dX0_wantedPlace_151 : decode M_X0_wantedPlace.2.1 151 = .ok (.invokevirtual 112, 3) := by decide +kernel
theorem dX0_wantedPlace_154 : decode M_X0_wantedPlace.2.1 154 = .ok (.iaload, 1) := by decide +kernel
theorem dX0_wantedPlace_155 : decode M_X0_wantedPlace.2.1 155 = .ok (.goto 5, 3) := by decide +kernel
theorem dX0_wantedPlace_158 : decode M_X0_wantedPlace.2.1 158 = .ok (.bipush (-4), 2) := by decide +kernel
theorem dX0_wantedPlace_160 : decode M_X0_wantedPlace.2.1 160 = .ok (.ireturn, 1) := by decide +kernel
theorem dX0_wantedPlace_161 : decode M_X0_wantedPlace.2.1 161 = .ok (.aload_n 0, 1) := by decide +kernel
theorem dX0_wantedPlace_162 : decode M_X0_wantedPlace.2.1 162 = .ok (.getfield 37, 3) := by decide +kernel
theorem dX0_wantedPlace_165 : decode M_X0_wantedPlace.2.1 165 = .ok (.iload_n 1, 1) := by decide +kernel
theorem dX0_wantedPlace_166 : decode M_X0_wantedPlace.2.1 166 = .ok (.iaload, 1) := by decide +kernel
theorem dX0_wantedPlace_167 : decode M_X0_wantedPlace.2.1 167 = .ok (.invokestatic 78, 3) := by decide +kernel
theorem dX0_wantedPlace_170 : decode M_X0_wantedPlace.2.1 170 = .ok (.ifCond .eq 17, 3) := by decide +kernel
theorem dX0_wantedPlace_173 : decode M_X0_wantedPlace.2.1 173 = .ok (.aload_n 0, 1) := by decide +kernel
theorem dX0_wantedPlace_174 : decode M_X0_wantedPlace.2.1 174 = .ok (.getfield 43, 3) := by decide +kernel
theorem dX0_wantedPlace_177 : decode M_X0_wantedPlace.2.1 177 = .ok (.aload_n 0, 1) := by decide +kernel
theorem dX0_wantedPlace_178 : decode M_X0_wantedPlace.2.1 178 = .ok (.getfield 37, 3) := by decide +kernel
theorem dX0_wantedPlace_181 : decode M_X0_wantedPlace.2.1 181 = .ok (.iload_n 1, 1) := by decide +kernel
theorem dX0_wantedPlace_182 : decode M_X0_wantedPlace.2.1 182 = .ok (.iaload, 1) := by decide +kernel
theorem dX0_wantedPlace_183 : decode M_X0_wantedPlace.2.1 183 = .ok (.iaload, 1) := by decide +kernel
theorem dX0_wantedPlace_184 : decode M_X0_wantedPlace.2.1 184 = .ok (.goto 13, 3) := by decide +kernel
theorem dX0_wantedPlace_187 : decode M_X0_wantedPlace.2.1 187 = .ok (.aload_n 0, 1) := by decide +kernel
theorem dX0_wantedPlace_188 : decode M_X0_wantedPlace.2.1 188 = .ok (.getfield 43, 3) := by decide +kernel
theorem dX0_wantedPlace_191 : decode M_X0_wantedPlace.2.1 191 = .ok (.aload_n 0, 1) := by decide +kernel
theorem dX0_wantedPlace_192 : decode M_X0_wantedPlace.2.1 192 = .ok (.iload_n 1, 1) := by decide +kernel
theorem dX0_wantedPlace_193 : decode M_X0_wantedPlace.2.1 193 = .ok (.invokevirtual 109, 3) := by decide +kernel
theorem dX0_wantedPlace_196 : decode M_X0_wantedPlace.2.1 196 = .ok (.iaload, 1) := by decide +kernel
theorem dX0_wantedPlace_197 : decode M_X0_wantedPlace.2.1 197 = .ok (.ireturn, 1) := by decide +kernel
theorem dX0_wantedPlace_198 : decode M_X0_wantedPlace.2.1 198 = .ok (.aload_n 0, 1) := by decide +kernel
theorem dX0_wantedPlace_199 : decode M_X0_wantedPlace.2.1 199 = .ok (.getfield 43, 3) := by decide +kernel
theorem dX0_wantedPlace_202 : decode M_X0_wantedPlace.2.1 202 = .ok (.aload_n 0, 1) := by decide +kernel
theorem dX0_wantedPlace_203 : decode M_X0_wantedPlace.2.1 203 = .ok (.iload_n 1, 1) := by decide +kernel
theorem dX0_wantedPlace_204 : decode M_X0_wantedPlace.2.1 204 = .ok (.invokevirtual 109, 3) := by decide +kernel
theorem dX0_wantedPlace_207 : decode M_X0_wantedPlace.2.1 207 = .ok (.iaload, 1) := by decide +kernel
theorem dX0_wantedPlace_208 : decode M_X0_wantedPlace.2.1 208 = .ok (.aload_n 0, 1) := by decide +kernel
theorem dX0_wantedPlace_209 : decode M_X0_wantedPlace.2.1 209 = .ok (.getfield 31, 3) := by decide +kernel
theorem dX0_wantedPlace_212 : decode M_X0_wantedPlace.2.1 212 = .ok (.iload_n 1, 1) := by decide +kernel
theorem dX0_wantedPlace_213 : decode M_X0_wantedPlace.2.1 213 = .ok (.iaload, 1) := by decide +kernel
theorem dX0_wantedPlace_214 : decode M_X0_wantedPlace.2.1 214 = .ok (.invokestatic 116, 3) := by decide +kernel
theorem dX0_wantedPlace_217 : decode M_X0_wantedPlace.2.1 217 = .ok (.ireturn, 1) := by decide +kernel
theorem dX0_wantedPlace_218 : decode M_X0_wantedPlace.2.1 218 = .ok (.aload_n 0, 1) := by decide +kernel
theorem dX0_wantedPlace_219 : decode M_X0_wantedPlace.2.1 219 = .ok (.getfield 37, 3) := by decide +kernel
theorem dX0_wantedPlace_222 : decode M_X0_wantedPlace.2.1 222 = .ok (.iload_n 1, 1) := by decide +kernel
theorem dX0_wantedPlace_223 : decode M_X0_wantedPlace.2.1 223 = .ok (.iaload, 1) := by decide +kernel
theorem dX0_wantedPlace_224 : decode M_X0_wantedPlace.2.1 224 = .ok (.invokestatic 78, 3) := by decide +kernel
theorem dX0_wantedPlace_227 : decode M_X0_wantedPlace.2.1 227 = .ok (.ifCond .eq 17, 3) := by decide +kernel
theorem dX0_wantedPlace_230 : decode M_X0_wantedPlace.2.1 230 = .ok (.aload_n 0, 1) := by decide +kernel
theorem dX0_wantedPlace_231 : decode M_X0_wantedPlace.2.1 231 = .ok (.getfield 43, 3) := by decide +kernel
theorem dX0_wantedPlace_234 : decode M_X0_wantedPlace.2.1 234 = .ok (.aload_n 0, 1) := by decide +kernel
theorem dX0_wantedPlace_235 : decode M_X0_wantedPlace.2.1 235 = .ok (.getfield 37, 3) := by decide +kernel
theorem dX0_wantedPlace_238 : decode M_X0_wantedPlace.2.1 238 = .ok (.iload_n 1, 1) := by decide +kernel
theorem dX0_wantedPlace_239 : decode M_X0_wantedPlace.2.1 239 = .ok (.iaload, 1) := by decide +kernel
theorem dX0_wantedPlace_240 : decode M_X0_wantedPlace.2.1 240 = .ok (.iaload, 1) := by decide +kernel
theorem dX0_wantedPlace_241 : decode M_X0_wantedPlace.2.1 241 = .ok (.goto 22, 3) := by decide +kernel
theorem dX0_wantedPlace_244 : decode M_X0_wantedPlace.2.1 244 = .ok (.aload_n 0, 1) := by decide +kernel
theorem dX0_wantedPlace_245 : decode M_X0_wantedPlace.2.1 245 = .ok (.getfield 43, 3) := by decide +kernel
theorem dX0_wantedPlace_248 : decode M_X0_wantedPlace.2.1 248 = .ok (.aload_n 0, 1) := by decide +kernel
theorem dX0_wantedPlace_249 : decode M_X0_wantedPlace.2.1 249 = .ok (.iload_n 1, 1) := by decide +kernel
theorem dX0_wantedPlace_250 : decode M_X0_wantedPlace.2.1 250 = .ok (.invokevirtual 109, 3) := by decide +kernel
theorem dX0_wantedPlace_253 : decode M_X0_wantedPlace.2.1 253 = .ok (.iaload, 1) := by decide +kernel
theorem dX0_wantedPlace_254 : decode M_X0_wantedPlace.2.1 254 = .ok (.aload_n 0, 1) := by decide +kernel
theorem dX0_wantedPlace_255 : decode M_X0_wantedPlace.2.1 255 = .ok (.getfield 31, 3) := by decide +kernel
theorem dX0_wantedPlace_258 : decode M_X0_wantedPlace.2.1 258 = .ok (.iload_n 1, 1) := by decide +kernel
theorem dX0_wantedPlace_259 : decode M_X0_wantedPlace.2.1 259 = .ok (.iaload, 1) := by decide +kernel
theorem dX0_wantedPlace_260 : decode M_X0_wantedPlace.2.1 260 = .ok (.invokestatic 116, 3) := by decide +kernel
theorem dX0_wantedPlace_263 : decode M_X0_wantedPlace.2.1 263 = .ok (.ireturn, 1) := by decide +kernel
theorem dX0_wantedPlace_264 : decode M_X0_wantedPlace.2.1 264 = .ok (.aload_n 0, 1) := by decide +kernel
theorem dX0_wantedPlace_265 : decode M_X0_wantedPlace.2.1 265 = .ok (.getfield 43, 3) := by decide +kernel
theorem dX0_wantedPlace_268 : decode M_X0_wantedPlace.2.1 268 = .ok (.aload_n 0, 1) := by decide +kernel
theorem dX0_wantedPlace_269 : decode M_X0_wantedPlace.2.1 269 = .ok (.iload_n 1, 1) := by decide +kernel
theorem dX0_wantedPlace_270 : decode M_X0_wantedPlace.2.1 270 = .ok (.invokevirtual 109, 3) := by decide +kernel
theorem dX0_wantedPlace_273 : decode M_X0_wantedPlace.2.1 273 = .ok (.iaload, 1) := by decide +kernel
theorem dX0_wantedPlace_274 : decode M_X0_wantedPlace.2.1 274 = .ok (.ireturn, 1) := by decide +kernel
theorem hv_X0_109 : a_okV RX0 M_X0_nearestTo 109 := ⟨a_in 322 (by decide +kernel) rfl, a_in 323 (by decide +kernel) rfl, a_in 324 (by decide +kernel) rfl⟩
theorem hv_X0_112 : a_okV RX0 M_X0_richest 112 := ⟨a_in 329 (by decide +kernel) rfl, a_in 330 (by decide +kernel) rfl, a_in 331 (by decide +kernel) rfl⟩
theorem ht_X0_116 : a_okS RX0 M_X0_awayFrom 116 := ⟨a_in 333 (by decide +kernel) rfl, a_in 334 (by decide +kernel) rfl⟩
def f_X0_wantedPlace (a0 : Nat) (a1 : Int32) (a2 : Int32) (w : aW) : Option (Int32 × aW) :=
  cV 0 w a0 (bk (f_X0_isAlive a0 a1 w) fun x2 w1 =>
  if ¬ x2 = (0 : Int32) then
    (gR 0 w1 a0 5).bind fun r3 =>
    (gA w1 r3 a1).bind fun x4 =>
    (gR 0 w1 a0 4).bind fun r5 =>
    (gA w1 r5 a1).bind fun x6 =>
    if x6 = (1 : Int32) then
      if (x4 + (2 : Int32)) ≤ (0 : Int32) then
        some ((-4 : Int32), w1)
      else
        if (x4 + (2 : Int32)) = 0 then none else
        if ¬ (a2 - a2 / (x4 + (2 : Int32)) * (x4 + (2 : Int32))) = (0 : Int32) then
          some ((-4 : Int32), w1)
        else
          (gR 0 w1 a0 10).bind fun r9 =>
          cV 0 w1 a0 (bk (f_X0_nearestTo a0 a1 w1) fun x11 w10 =>
          (gA w10 r9 x11).bind fun x12 =>
          some (x12, w10))
    else
      if x6 = (2 : Int32) then
        (gR 0 w1 a0 7).bind fun r14 =>
        (gA w1 r14 a1).bind fun x15 =>
        (gR 0 w1 a0 5).bind fun r16 =>
        (gA w1 r16 a1).bind fun x17 =>
        if x15 < x17 then
          some ((-4 : Int32), w1)
        else
          (gR 0 w1 a0 10).bind fun r18 =>
          cV 0 w1 a0 (bk (f_X0_nearestTo a0 a1 w1) fun x20 w19 =>
          (gA w19 r18 x20).bind fun x21 =>
          some (x21, w19))
      else
        if x6 = (3 : Int32) then
          (gR 0 w1 a0 10).bind fun r23 =>
          cV 0 w1 a0 (bk (f_X0_richest a0 w1) fun x25 w24 =>
          (gA w24 r23 x25).bind fun x26 =>
          some (x26, w24))
        else
          if x6 = (4 : Int32) then
            (gR 0 w1 a0 8).bind fun r28 =>
            (gA w1 r28 a1).bind fun x29 =>
            bk (f_X3_isPerson x29 w1) fun x31 w30 =>
            if x31 = (0 : Int32) then
              (gR 0 w30 a0 10).bind fun r32 =>
              cV 0 w30 a0 (bk (f_X0_nearestTo a0 a1 w30) fun x34 w33 =>
              (gA w33 r32 x34).bind fun x35 =>
              some (x35, w33))
            else
              (gR 0 w30 a0 10).bind fun r36 =>
              (gR 0 w30 a0 8).bind fun r37 =>
              (gA w30 r37 a1).bind fun x38 =>
              (gA w30 r36 x38).bind fun x39 =>
              some (x39, w30)
          else
            if x6 = (5 : Int32) then
              (gR 0 w1 a0 10).bind fun r41 =>
              cV 0 w1 a0 (bk (f_X0_nearestTo a0 a1 w1) fun x43 w42 =>
              (gA w42 r41 x43).bind fun x44 =>
              (gR 0 w42 a0 6).bind fun r45 =>
              (gA w42 r45 a1).bind fun x46 =>
              bk (f_X0_awayFrom x44 x46 w42) fun x48 w47 =>
              some (x48, w47))
            else
              if x6 = (6 : Int32) then
                (gR 0 w1 a0 7).bind fun r50 =>
                (gA w1 r50 a1).bind fun x51 =>
                if ¬ (x51 - x51 / (2 : Int32) * (2 : Int32)) = (0 : Int32) then
                  some ((-4 : Int32), w1)
                else
                  (gR 0 w1 a0 10).bind fun r52 =>
                  cV 0 w1 a0 (bk (f_X0_richest a0 w1) fun x54 w53 =>
                  (gA w53 r52 x54).bind fun x55 =>
                  some (x55, w53))
              else
                if x6 = (7 : Int32) then
                  (gR 0 w1 a0 8).bind fun r57 =>
                  (gA w1 r57 a1).bind fun x58 =>
                  bk (f_X3_isPerson x58 w1) fun x60 w59 =>
                  if x60 = (0 : Int32) then
                    (gR 0 w59 a0 10).bind fun r61 =>
                    cV 0 w59 a0 (bk (f_X0_nearestTo a0 a1 w59) fun x63 w62 =>
                    (gA w62 r61 x63).bind fun x64 =>
                    (gR 0 w62 a0 6).bind fun r65 =>
                    (gA w62 r65 a1).bind fun x66 =>
                    bk (f_X0_awayFrom x64 x66 w62) fun x68 w67 =>
                    some (x68, w67))
                  else
                    (gR 0 w59 a0 10).bind fun r69 =>
                    (gR 0 w59 a0 8).bind fun r70 =>
                    (gA w59 r70 a1).bind fun x71 =>
                    (gA w59 r69 x71).bind fun x72 =>
                    some (x72, w59)
                else
                  (gR 0 w1 a0 10).bind fun r73 =>
                  cV 0 w1 a0 (bk (f_X0_nearestTo a0 a1 w1) fun x75 w74 =>
                  (gA w74 r73 x75).bind fun x76 =>
                  some (x76, w74))
  else
    some ((-4 : Int32), w1))
theorem s_X0_wantedPlace (a0 : Nat) (a1 : Int32) (a2 : Int32) (w : aW) : Sp rvI M_X0_wantedPlace [.ref a0, .int a1, .int a2] w (f_X0_wantedPlace a0 a1 a2 w) := by
  refine e_entry [some (.ref a0), some (.int a1), some (.int a2), none] (by decide +kernel) (Nat.le_of_ble_eq_true rfl) (fun _ => rfl) ?_
  unfold f_X0_wantedPlace
  refine e_aload_n (pc := 0) dX0_wantedPlace_0 rfl rfl ?_
  refine e_iload_n (pc := 1) dX0_wantedPlace_1 rfl rfl ?_
  refine e_callV (pc := 2) (av := [.int a1]) (S := []) (c0 := 0) rfl rfl ok_X0_isAlive ⟨Nat.le_of_ble_eq_true rfl, Nat.le_of_ble_eq_true rfl⟩ hv_X0_75 dX0_wantedPlace_2 (s_X0_isAlive a0 a1 w) rfl rfl (Nat.le_of_ble_eq_true rfl) (fun x2 w1 => ?_)
  refine e_if_ne (pc := 5) (tgt := 11) dX0_wantedPlace_5 (by decide) (fun _ => ?_) (fun _ => ?_)
  · refine e_aload_n (pc := 11) dX0_wantedPlace_11 rfl rfl ?_
    refine e_getR (pc := 12) dX0_wantedPlace_12 hs_X0_28 (fun r3 => ?_)
    refine e_iload_n (pc := 15) dX0_wantedPlace_15 rfl rfl ?_
    refine e_iald (pc := 16) dX0_wantedPlace_16 (fun x4 => ?_)
    refine e_iconst (pc := 17) dX0_wantedPlace_17 kc_2 ?_
    refine e_iadd (pc := 18) dX0_wantedPlace_18 ?_
    refine e_istore_n (L' := [some (.ref a0), some (.int a1), some (.int a2), some (.int (x4 + (2 : Int32)))]) (pc := 19) dX0_wantedPlace_19 rfl (by decide) rfl ?_
    refine e_aload_n (pc := 20) dX0_wantedPlace_20 rfl rfl ?_
    refine e_getR (pc := 21) dX0_wantedPlace_21 hs_X0_24 (fun r5 => ?_)
    refine e_iload_n (pc := 24) dX0_wantedPlace_24 rfl rfl ?_
    refine e_iald (pc := 25) dX0_wantedPlace_25 (fun x6 => ?_)
    refine e_ite (fun h7 => ?_) (fun h7 => ?_)
    · refine e_tabIn (pc := 26) (v := 1) (j := 1) (tgt := 68) dX0_wantedPlace_26 h7 rfl (by decide) (by decide) rfl (by decide) ?_
      refine e_iload_n (pc := 68) dX0_wantedPlace_68 rfl rfl ?_
      refine e_if_le (pc := 69) (tgt := 91) dX0_wantedPlace_69 (by decide) (fun _ => ?_) (fun _ => ?_)
      · refine e_bipush (pc := 91) dX0_wantedPlace_91 kb_m4 ?_
        exact e_iret (pc := 93) dX0_wantedPlace_93 rfl rfl
      · refine e_iload_n (pc := 72) dX0_wantedPlace_72 rfl rfl ?_
        refine e_iload_n (pc := 73) dX0_wantedPlace_73 rfl rfl ?_
        refine e_chk (fun h8 => ?_)
        refine e_irem (pc := 74) dX0_wantedPlace_74 h8 ?_
        refine e_if_ne (pc := 75) (tgt := 91) dX0_wantedPlace_75 (by decide) (fun _ => ?_) (fun _ => ?_)
        · refine e_bipush (pc := 91) dX0_wantedPlace_91 kb_m4 ?_
          exact e_iret (pc := 93) dX0_wantedPlace_93 rfl rfl
        · refine e_aload_n (pc := 78) dX0_wantedPlace_78 rfl rfl ?_
          refine e_getR (pc := 79) dX0_wantedPlace_79 hs_X0_43 (fun r9 => ?_)
          refine e_aload_n (pc := 82) dX0_wantedPlace_82 rfl rfl ?_
          refine e_iload_n (pc := 83) dX0_wantedPlace_83 rfl rfl ?_
          refine e_callV (pc := 84) (av := [.int a1]) (S := [.ref r9]) (c0 := 0) rfl rfl ok_X0_nearestTo ⟨Nat.le_of_ble_eq_true rfl, Nat.le_of_ble_eq_true rfl⟩ hv_X0_109 dX0_wantedPlace_84 (s_X0_nearestTo a0 a1 w1) rfl rfl (Nat.le_of_ble_eq_true rfl) (fun x11 w10 => ?_)
          refine e_iald (pc := 87) dX0_wantedPlace_87 (fun x12 => ?_)
          refine e_goto (pc := 88) (tgt := 93) dX0_wantedPlace_88 (by decide) ?_
          exact e_iret (pc := 93) dX0_wantedPlace_93 rfl rfl
    · refine e_ite (fun h13 => ?_) (fun h13 => ?_)
      · refine e_tabIn (pc := 26) (v := 2) (j := 2) (tgt := 94) dX0_wantedPlace_26 h13 rfl (by decide) (by decide) rfl (by decide) ?_
        refine e_aload_n (pc := 94) dX0_wantedPlace_94 rfl rfl ?_
        refine e_getR (pc := 95) dX0_wantedPlace_95 hs_X0_34 (fun r14 => ?_)
        refine e_iload_n (pc := 98) dX0_wantedPlace_98 rfl rfl ?_
        refine e_iald (pc := 99) dX0_wantedPlace_99 (fun x15 => ?_)
        refine e_aload_n (pc := 100) dX0_wantedPlace_100 rfl rfl ?_
        refine e_getR (pc := 101) dX0_wantedPlace_101 hs_X0_28 (fun r16 => ?_)
        refine e_iload_n (pc := 104) dX0_wantedPlace_104 rfl rfl ?_
        refine e_iald (pc := 105) dX0_wantedPlace_105 (fun x17 => ?_)
        refine e_icmp_lt (pc := 106) (tgt := 122) dX0_wantedPlace_106 (by decide) (fun _ => ?_) (fun _ => ?_)
        · refine e_bipush (pc := 122) dX0_wantedPlace_122 kb_m4 ?_
          exact e_iret (pc := 124) dX0_wantedPlace_124 rfl rfl
        · refine e_aload_n (pc := 109) dX0_wantedPlace_109 rfl rfl ?_
          refine e_getR (pc := 110) dX0_wantedPlace_110 hs_X0_43 (fun r18 => ?_)
          refine e_aload_n (pc := 113) dX0_wantedPlace_113 rfl rfl ?_
          refine e_iload_n (pc := 114) dX0_wantedPlace_114 rfl rfl ?_
          refine e_callV (pc := 115) (av := [.int a1]) (S := [.ref r18]) (c0 := 0) rfl rfl ok_X0_nearestTo ⟨Nat.le_of_ble_eq_true rfl, Nat.le_of_ble_eq_true rfl⟩ hv_X0_109 dX0_wantedPlace_115 (s_X0_nearestTo a0 a1 w1) rfl rfl (Nat.le_of_ble_eq_true rfl) (fun x20 w19 => ?_)
          refine e_iald (pc := 118) dX0_wantedPlace_118 (fun x21 => ?_)
          refine e_goto (pc := 119) (tgt := 124) dX0_wantedPlace_119 (by decide) ?_
          exact e_iret (pc := 124) dX0_wantedPlace_124 rfl rfl
      · refine e_ite (fun h22 => ?_) (fun h22 => ?_)
        · refine e_tabIn (pc := 26) (v := 3) (j := 3) (tgt := 125) dX0_wantedPlace_26 h22 rfl (by decide) (by decide) rfl (by decide) ?_
          refine e_aload_n (pc := 125) dX0_wantedPlace_125 rfl rfl ?_
          refine e_getR (pc := 126) dX0_wantedPlace_126 hs_X0_43 (fun r23 => ?_)
          refine e_aload_n (pc := 129) dX0_wantedPlace_129 rfl rfl ?_
          refine e_callV (pc := 130) (av := []) (S := [.ref r23]) (c0 := 0) rfl rfl ok_X0_richest ⟨Nat.le_of_ble_eq_true rfl, Nat.le_of_ble_eq_true rfl⟩ hv_X0_112 dX0_wantedPlace_130 (s_X0_richest a0 w1) rfl rfl (Nat.le_of_ble_eq_true rfl) (fun x25 w24 => ?_)
          refine e_iald (pc := 133) dX0_wantedPlace_133 (fun x26 => ?_)
          exact e_iret (pc := 134) dX0_wantedPlace_134 rfl rfl
        · refine e_ite (fun h27 => ?_) (fun h27 => ?_)
          · refine e_tabIn (pc := 26) (v := 4) (j := 4) (tgt := 161) dX0_wantedPlace_26 h27 rfl (by decide) (by decide) rfl (by decide) ?_
            refine e_aload_n (pc := 161) dX0_wantedPlace_161 rfl rfl ?_
            refine e_getR (pc := 162) dX0_wantedPlace_162 hs_X0_37 (fun r28 => ?_)
            refine e_iload_n (pc := 165) dX0_wantedPlace_165 rfl rfl ?_
            refine e_iald (pc := 166) dX0_wantedPlace_166 (fun x29 => ?_)
            refine e_callN (pc := 167) (av := [.int x29]) (S := []) ok_X3_isPerson ⟨Nat.le_of_ble_eq_true rfl, Nat.le_of_ble_eq_true rfl⟩ hn_X0_78 dX0_wantedPlace_167 (s_X3_isPerson x29 w1) rfl rfl (Nat.le_of_ble_eq_true rfl) (fun x31 w30 => ?_)
            refine e_if_eq (pc := 170) (tgt := 187) dX0_wantedPlace_170 (by decide) (fun _ => ?_) (fun _ => ?_)
            · refine e_aload_n (pc := 187) dX0_wantedPlace_187 rfl rfl ?_
              refine e_getR (pc := 188) dX0_wantedPlace_188 hs_X0_43 (fun r32 => ?_)
              refine e_aload_n (pc := 191) dX0_wantedPlace_191 rfl rfl ?_
              refine e_iload_n (pc := 192) dX0_wantedPlace_192 rfl rfl ?_
              refine e_callV (pc := 193) (av := [.int a1]) (S := [.ref r32]) (c0 := 0) rfl rfl ok_X0_nearestTo ⟨Nat.le_of_ble_eq_true rfl, Nat.le_of_ble_eq_true rfl⟩ hv_X0_109 dX0_wantedPlace_193 (s_X0_nearestTo a0 a1 w30) rfl rfl (Nat.le_of_ble_eq_true rfl) (fun x34 w33 => ?_)
              refine e_iald (pc := 196) dX0_wantedPlace_196 (fun x35 => ?_)
              exact e_iret (pc := 197) dX0_wantedPlace_197 rfl rfl
            · refine e_aload_n (pc := 173) dX0_wantedPlace_173 rfl rfl ?_
              refine e_getR (pc := 174) dX0_wantedPlace_174 hs_X0_43 (fun r36 => ?_)
              refine e_aload_n (pc := 177) dX0_wantedPlace_177 rfl rfl ?_
              refine e_getR (pc := 178) dX0_wantedPlace_178 hs_X0_37 (fun r37 => ?_)
              refine e_iload_n (pc := 181) dX0_wantedPlace_181 rfl rfl ?_
              refine e_iald (pc := 182) dX0_wantedPlace_182 (fun x38 => ?_)
              refine e_iald (pc := 183) dX0_wantedPlace_183 (fun x39 => ?_)
              refine e_goto (pc := 184) (tgt := 197) dX0_wantedPlace_184 (by decide) ?_
              exact e_iret (pc := 197) dX0_wantedPlace_197 rfl rfl
          · refine e_ite (fun h40 => ?_) (fun h40 => ?_)
            · refine e_tabIn (pc := 26) (v := 5) (j := 5) (tgt := 198) dX0_wantedPlace_26 h40 rfl (by decide) (by decide) rfl (by decide) ?_
              refine e_aload_n (pc := 198) dX0_wantedPlace_198 rfl rfl ?_
              refine e_getR (pc := 199) dX0_wantedPlace_199 hs_X0_43 (fun r41 => ?_)
              refine e_aload_n (pc := 202) dX0_wantedPlace_202 rfl rfl ?_
              refine e_iload_n (pc := 203) dX0_wantedPlace_203 rfl rfl ?_
              refine e_callV (pc := 204) (av := [.int a1]) (S := [.ref r41]) (c0 := 0) rfl rfl ok_X0_nearestTo ⟨Nat.le_of_ble_eq_true rfl, Nat.le_of_ble_eq_true rfl⟩ hv_X0_109 dX0_wantedPlace_204 (s_X0_nearestTo a0 a1 w1) rfl rfl (Nat.le_of_ble_eq_true rfl) (fun x43 w42 => ?_)
              refine e_iald (pc := 207) dX0_wantedPlace_207 (fun x44 => ?_)
              refine e_aload_n (pc := 208) dX0_wantedPlace_208 rfl rfl ?_
              refine e_getR (pc := 209) dX0_wantedPlace_209 hs_X0_31 (fun r45 => ?_)
              refine e_iload_n (pc := 212) dX0_wantedPlace_212 rfl rfl ?_
              refine e_iald (pc := 213) dX0_wantedPlace_213 (fun x46 => ?_)
              refine e_callS (pc := 214) (av := [.int x44, .int x46]) (S := []) ok_X0_awayFrom ⟨Nat.le_of_ble_eq_true rfl, Nat.le_of_ble_eq_true rfl⟩ ht_X0_116 dX0_wantedPlace_214 (s_X0_awayFrom x44 x46 w42) rfl rfl (Nat.le_of_ble_eq_true rfl) (fun x48 w47 => ?_)
              exact e_iret (pc := 217) dX0_wantedPlace_217 rfl rfl
            · refine e_ite (fun h49 => ?_) (fun h49 => ?_)
              · refine e_tabIn (pc := 26) (v := 6) (j := 6) (tgt := 135) dX0_wantedPlace_26 h49 rfl (by decide) (by decide) rfl (by decide) ?_
                refine e_aload_n (pc := 135) dX0_wantedPlace_135 rfl rfl ?_
                refine e_getR (pc := 136) dX0_wantedPlace_136 hs_X0_34 (fun r50 => ?_)
                refine e_iload_n (pc := 139) dX0_wantedPlace_139 rfl rfl ?_
                refine e_iald (pc := 140) dX0_wantedPlace_140 (fun x51 => ?_)
                refine e_iconst (pc := 141) dX0_wantedPlace_141 kc_2 ?_
                refine e_irem (pc := 142) dX0_wantedPlace_142 (by decide) ?_
                refine e_if_ne (pc := 143) (tgt := 158) dX0_wantedPlace_143 (by decide) (fun _ => ?_) (fun _ => ?_)
                · refine e_bipush (pc := 158) dX0_wantedPlace_158 kb_m4 ?_
                  exact e_iret (pc := 160) dX0_wantedPlace_160 rfl rfl
                · refine e_aload_n (pc := 146) dX0_wantedPlace_146 rfl rfl ?_
                  refine e_getR (pc := 147) dX0_wantedPlace_147 hs_X0_43 (fun r52 => ?_)
                  refine e_aload_n (pc := 150) dX0_wantedPlace_150 rfl rfl ?_
                  refine e_callV (pc := 151) (av := []) (S := [.ref r52]) (c0 := 0) rfl rfl ok_X0_richest ⟨Nat.le_of_ble_eq_true rfl, Nat.le_of_ble_eq_true rfl⟩ hv_X0_112 dX0_wantedPlace_151 (s_X0_richest a0 w1) rfl rfl (Nat.le_of_ble_eq_true rfl) (fun x54 w53 => ?_)
                  refine e_iald (pc := 154) dX0_wantedPlace_154 (fun x55 => ?_)
                  refine e_goto (pc := 155) (tgt := 160) dX0_wantedPlace_155 (by decide) ?_
                  exact e_iret (pc := 160) dX0_wantedPlace_160 rfl rfl
              · refine e_ite (fun h56 => ?_) (fun h56 => ?_)
                · refine e_tabIn (pc := 26) (v := 7) (j := 7) (tgt := 218) dX0_wantedPlace_26 h56 rfl (by decide) (by decide) rfl (by decide) ?_
                  refine e_aload_n (pc := 218) dX0_wantedPlace_218 rfl rfl ?_
                  refine e_getR (pc := 219) dX0_wantedPlace_219 hs_X0_37 (fun r57 => ?_)
                  refine e_iload_n (pc := 222) dX0_wantedPlace_222 rfl rfl ?_
                  refine e_iald (pc := 223) dX0_wantedPlace_223 (fun x58 => ?_)
                  refine e_callN (pc := 224) (av := [.int x58]) (S := []) ok_X3_isPerson ⟨Nat.le_of_ble_eq_true rfl, Nat.le_of_ble_eq_true rfl⟩ hn_X0_78 dX0_wantedPlace_224 (s_X3_isPerson x58 w1) rfl rfl (Nat.le_of_ble_eq_true rfl) (fun x60 w59 => ?_)
                  refine e_if_eq (pc := 227) (tgt := 244) dX0_wantedPlace_227 (by decide) (fun _ => ?_) (fun _ => ?_)
                  · refine e_aload_n (pc := 244) dX0_wantedPlace_244 rfl rfl ?_
                    refine e_getR (pc := 245) dX0_wantedPlace_245 hs_X0_43 (fun r61 => ?_)
                    refine e_aload_n (pc := 248) dX0_wantedPlace_248 rfl rfl ?_
                    refine e_iload_n (pc := 249) dX0_wantedPlace_249 rfl rfl ?_
                    refine e_callV (pc := 250) (av := [.int a1]) (S := [.ref r61]) (c0 := 0) rfl rfl ok_X0_nearestTo ⟨Nat.le_of_ble_eq_true rfl, Nat.le_of_ble_eq_true rfl⟩ hv_X0_109 dX0_wantedPlace_250 (s_X0_nearestTo a0 a1 w59) rfl rfl (Nat.le_of_ble_eq_true rfl) (fun x63 w62 => ?_)
                    refine e_iald (pc := 253) dX0_wantedPlace_253 (fun x64 => ?_)
                    refine e_aload_n (pc := 254) dX0_wantedPlace_254 rfl rfl ?_
                    refine e_getR (pc := 255) dX0_wantedPlace_255 hs_X0_31 (fun r65 => ?_)
                    refine e_iload_n (pc := 258) dX0_wantedPlace_258 rfl rfl ?_
                    refine e_iald (pc := 259) dX0_wantedPlace_259 (fun x66 => ?_)
                    refine e_callS (pc := 260) (av := [.int x64, .int x66]) (S := []) ok_X0_awayFrom ⟨Nat.le_of_ble_eq_true rfl, Nat.le_of_ble_eq_true rfl⟩ ht_X0_116 dX0_wantedPlace_260 (s_X0_awayFrom x64 x66 w62) rfl rfl (Nat.le_of_ble_eq_true rfl) (fun x68 w67 => ?_)
                    exact e_iret (pc := 263) dX0_wantedPlace_263 rfl rfl
                  · refine e_aload_n (pc := 230) dX0_wantedPlace_230 rfl rfl ?_
                    refine e_getR (pc := 231) dX0_wantedPlace_231 hs_X0_43 (fun r69 => ?_)
                    refine e_aload_n (pc := 234) dX0_wantedPlace_234 rfl rfl ?_
                    refine e_getR (pc := 235) dX0_wantedPlace_235 hs_X0_37 (fun r70 => ?_)
                    refine e_iload_n (pc := 238) dX0_wantedPlace_238 rfl rfl ?_
                    refine e_iald (pc := 239) dX0_wantedPlace_239 (fun x71 => ?_)
                    refine e_iald (pc := 240) dX0_wantedPlace_240 (fun x72 => ?_)
                    refine e_goto (pc := 241) (tgt := 263) dX0_wantedPlace_241 (by decide) ?_
                    exact e_iret (pc := 263) dX0_wantedPlace_263 rfl rfl
                · refine e_tabOut (pc := 26) (tgt := 264) dX0_wantedPlace_26 (by have z0 := lv_neT h7 (show (1 : Int32).toInt = 1 from rfl); have z1 := lv_neT h13 (show (2 : Int32).toInt = 2 from rfl); have z2 := lv_neT h22 (show (3 : Int32).toInt = 3 from rfl); have z3 := lv_neT h27 (show (4 : Int32).toInt = 4 from rfl); have z4 := lv_neT h40 (show (5 : Int32).toInt = 5 from rfl); have z5 := lv_neT h49 (show (6 : Int32).toInt = 6 from rfl); have z6 := lv_neT h56 (show (7 : Int32).toInt = 7 from rfl); omega) (by decide) ?_
                  refine e_aload_n (pc := 264) dX0_wantedPlace_264 rfl rfl ?_
                  refine e_getR (pc := 265) dX0_wantedPlace_265 hs_X0_43 (fun r73 => ?_)
                  refine e_aload_n (pc := 268) dX0_wantedPlace_268 rfl rfl ?_
                  refine e_iload_n (pc := 269) dX0_wantedPlace_269 rfl rfl ?_
                  refine e_callV (pc := 270) (av := [.int a1]) (S := [.ref r73]) (c0 := 0) rfl rfl ok_X0_nearestTo ⟨Nat.le_of_ble_eq_true rfl, Nat.le_of_ble_eq_true rfl⟩ hv_X0_109 dX0_wantedPlace_270 (s_X0_nearestTo a0 a1 w1) rfl rfl (Nat.le_of_ble_eq_true rfl) (fun x75 w74 => ?_)
                  refine e_iald (pc := 273) dX0_wantedPlace_273 (fun x76 => ?_)
                  exact e_iret (pc := 274) dX0_wantedPlace_274 rfl rfl
  · refine e_bipush (pc := 8) dX0_wantedPlace_8 kb_m4 ?_
    exact e_iret (pc := 10) dX0_wantedPlace_10 rfl rfl
def M_X0_goTowards : aM := (yX0_goTowards, cX0_goTowards, 3, none, 0, 0)
theorem ok_X0_goTowards : a_okM M_X0_goTowards 2 := ⟨⟨by decide +kernel, by decide +kernel⟩, by decide +kernel, a_in 339 (by decide +kernel) rfl, a_in 77 (by decide +kernel) rfl⟩
theorem dX0_goTowards_0 : decode M_X0_goTowards.2.1 0 = .ok (.iload_n 2, 1) := by decide +kernel
theorem dX0_goTowards_1 : decode M_X0_goTowards.2.1 1 = .ok (.bipush (-4), 2) := by decide +kernel
theorem dX0_goTowards_3 : decode M_X0_goTowards.2.1 3 = .ok (.if_icmp .eq 13, 3) := by decide +kernel
theorem dX0_goTowards_6 : decode M_X0_goTowards.2.1 6 = .ok (.iload_n 2, 1) := by decide +kernel
theorem dX0_goTowards_7 : decode M_X0_goTowards.2.1 7 = .ok (.aload_n 0, 1) := by decide +kernel
theorem dX0_goTowards_8 : decode M_X0_goTowards.2.1 8 = .ok (.getfield 31, 3) := by decide +kernel
theorem dX0_goTowards_11 : decode M_X0_goTowards.2.1 11 = .ok (.iload_n 1, 1) := by decide +kernel
theorem dX0_goTowards_12 : decode M_X0_goTowards.2.1 12 = .ok (.iaload, 1) := by decide +kernel
theorem dX0_goTowards_13 : decode M_X0_goTowards.2.1 13 = .ok (.if_icmp .ne 4, 3) := by decide +kernel
theorem dX0_goTowards_16 : decode M_X0_goTowards.2.1 16 = .ok (.return_, 1) := by decide +kernel
theorem dX0_goTowards_17 : decode M_X0_goTowards.2.1 17 = .ok (.aload_n 0, 1) := by decide +kernel
theorem dX0_goTowards_18 : decode M_X0_goTowards.2.1 18 = .ok (.getfield 31, 3) := by decide +kernel
theorem dX0_goTowards_21 : decode M_X0_goTowards.2.1 21 = .ok (.iload_n 1, 1) := by decide +kernel
theorem dX0_goTowards_22 : decode M_X0_goTowards.2.1 22 = .ok (.dup2, 1) := by decide +kernel
theorem dX0_goTowards_23 : decode M_X0_goTowards.2.1 23 = .ok (.iaload, 1) := by decide +kernel
theorem dX0_goTowards_24 : decode M_X0_goTowards.2.1 24 = .ok (.iload_n 2, 1) := by decide +kernel
theorem dX0_goTowards_25 : decode M_X0_goTowards.2.1 25 = .ok (.aload_n 0, 1) := by decide +kernel
theorem dX0_goTowards_26 : decode M_X0_goTowards.2.1 26 = .ok (.getfield 31, 3) := by decide +kernel
theorem dX0_goTowards_29 : decode M_X0_goTowards.2.1 29 = .ok (.iload_n 1, 1) := by decide +kernel
theorem dX0_goTowards_30 : decode M_X0_goTowards.2.1 30 = .ok (.iaload, 1) := by decide +kernel
theorem dX0_goTowards_31 : decode M_X0_goTowards.2.1 31 = .ok (.if_icmp .le 7, 3) := by decide +kernel
theorem dX0_goTowards_34 : decode M_X0_goTowards.2.1 34 = .ok (.iconst 1, 1) := by decide +kernel
theorem dX0_goTowards_35 : decode M_X0_goTowards.2.1 35 = .ok (.goto 4, 3) := by decide +kernel
theorem dX0_goTowards_38 : decode M_X0_goTowards.2.1 38 = .ok (.iconst (-1), 1) := by decide +kernel
theorem dX0_goTowards_39 : decode M_X0_goTowards.2.1 39 = .ok (.iadd, 1) := by decide +kernel
theorem dX0_goTowards_40 : decode M_X0_goTowards.2.1 40 = .ok (.iastore, 1) := by decide +kernel
theorem dX0_goTowards_41 : decode M_X0_goTowards.2.1 41 = .ok (.aload_n 0, 1) := by decide +kernel
theorem dX0_goTowards_42 : decode M_X0_goTowards.2.1 42 = .ok (.dup, 1) := by decide +kernel
theorem dX0_goTowards_43 : decode M_X0_goTowards.2.1 43 = .ok (.getfield 21, 3) := by decide +kernel
theorem dX0_goTowards_46 : decode M_X0_goTowards.2.1 46 = .ok (.iconst 1, 1) := by decide +kernel
theorem dX0_goTowards_47 : decode M_X0_goTowards.2.1 47 = .ok (.iload_n 1, 1) := by decide +kernel
theorem dX0_goTowards_48 : decode M_X0_goTowards.2.1 48 = .ok (.ishl, 1) := by decide +kernel
theorem dX0_goTowards_49 : decode M_X0_goTowards.2.1 49 = .ok (.ior, 1) := by decide +kernel
theorem dX0_goTowards_50 : decode M_X0_goTowards.2.1 50 = .ok (.putfield 21, 3) := by decide +kernel
theorem dX0_goTowards_53 : decode M_X0_goTowards.2.1 53 = .ok (.return_, 1) := by decide +kernel
def c_X0_goTowards_39 (a0 : Nat) (a1 : Int32) (a2 : Int32) (s0 : Int32) (s1 : Int32) (s2 : Int32) (s3 : Nat) (w : aW) : Option (Unit × aW) :=
  (sA w s3 s2 (s1 + s0)).bind fun w7 =>
  (gI 0 w7 a0 3).bind fun x8 =>
  (sF 0 w7 a0 3 (.int (x8 ||| ((1 : Int32) <<< (a1 &&& 31))))).bind fun w9 =>
  some ((), w9)
theorem t_X0_goTowards_39 (a0 : Nat) (a1 : Int32) (a2 : Int32) (s0 : Int32) (s1 : Int32) (s2 : Int32) (s3 : Nat) (w : aW) : Ev rvV M_X0_goTowards 39 [some (.ref a0), some (.int a1), none] [.int s0, .int s1, .int s2, .ref s3] w (c_X0_goTowards_39 a0 a1 a2 s0 s1 s2 s3 w) := by
  unfold c_X0_goTowards_39
  refine e_iadd (pc := 39) dX0_goTowards_39 ?_
  refine e_iast (pc := 40) dX0_goTowards_40 (fun w7 => ?_)
  refine e_aload_n (pc := 41) dX0_goTowards_41 rfl rfl ?_
  refine e_dup (pc := 42) dX0_goTowards_42 rfl ?_
  refine e_getI (pc := 43) dX0_goTowards_43 hs_X0_21 (fun x8 => ?_)
  refine e_iconst (pc := 46) dX0_goTowards_46 kc_1 ?_
  refine e_iload_n (pc := 47) dX0_goTowards_47 rfl rfl ?_
  refine e_ishl (pc := 48) dX0_goTowards_48 ?_
  refine e_ior (pc := 49) dX0_goTowards_49 ?_
  refine e_put (pc := 50) dX0_goTowards_50 hw_X0_21 (fun _ => rfl) (fun _ => rfl) (fun w9 => ?_)
  exact e_vret (pc := 53) dX0_goTowards_53 rfl
def f_X0_goTowards (a0 : Nat) (a1 : Int32) (a2 : Int32) (w : aW) : Option (Unit × aW) :=
  if a2 = (-4 : Int32) then
    some ((), w)
  else
    (gR 0 w a0 6).bind fun r1 =>
    (gA w r1 a1).bind fun x2 =>
    if ¬ a2 = x2 then
      (gR 0 w a0 6).bind fun r3 =>
      (gA w r3 a1).bind fun x4 =>
      (gR 0 w a0 6).bind fun r5 =>
      (gA w r5 a1).bind fun x6 =>
      if a2 ≤ x6 then
        c_X0_goTowards_39 a0 a1 a2 (-1 : Int32) x4 a1 r3 w
      else
        c_X0_goTowards_39 a0 a1 a2 (1 : Int32) x4 a1 r3 w
    else
      some ((), w)
theorem s_X0_goTowards (a0 : Nat) (a1 : Int32) (a2 : Int32) (w : aW) : Sp rvV M_X0_goTowards [.ref a0, .int a1, .int a2] w (f_X0_goTowards a0 a1 a2 w) := by
  refine e_entry [some (.ref a0), some (.int a1), some (.int a2)] (by decide +kernel) (Nat.le_of_ble_eq_true rfl) (fun _ => rfl) ?_
  unfold f_X0_goTowards
  refine e_iload_n (pc := 0) dX0_goTowards_0 rfl rfl ?_
  refine e_bipush (pc := 1) dX0_goTowards_1 kb_m4 ?_
  refine e_icmp_eq (pc := 3) (tgt := 16) dX0_goTowards_3 (by decide) (fun _ => ?_) (fun _ => ?_)
  · exact e_vret (pc := 16) dX0_goTowards_16 rfl
  · refine e_iload_n (pc := 6) dX0_goTowards_6 rfl rfl ?_
    refine e_aload_n (pc := 7) dX0_goTowards_7 rfl rfl ?_
    refine e_getR (pc := 8) dX0_goTowards_8 hs_X0_31 (fun r1 => ?_)
    refine e_iload_n (pc := 11) dX0_goTowards_11 rfl rfl ?_
    refine e_iald (pc := 12) dX0_goTowards_12 (fun x2 => ?_)
    refine e_icmp_ne (pc := 13) (tgt := 17) dX0_goTowards_13 (by decide) (fun _ => ?_) (fun _ => ?_)
    · refine e_aload_n (pc := 17) dX0_goTowards_17 rfl rfl ?_
      refine e_getR (pc := 18) dX0_goTowards_18 hs_X0_31 (fun r3 => ?_)
      refine e_iload_n (pc := 21) dX0_goTowards_21 rfl rfl ?_
      refine e_dup2 (pc := 22) dX0_goTowards_22 rfl rfl ?_
      refine e_iald (pc := 23) dX0_goTowards_23 (fun x4 => ?_)
      refine e_iload_n (pc := 24) dX0_goTowards_24 rfl rfl ?_
      refine e_aload_n (pc := 25) dX0_goTowards_25 rfl rfl ?_
      refine e_getR (pc := 26) dX0_goTowards_26 hs_X0_31 (fun r5 => ?_)
      refine e_iload_n (pc := 29) dX0_goTowards_29 rfl rfl ?_
      refine e_iald (pc := 30) dX0_goTowards_30 (fun x6 => ?_)
      refine e_icmp_le (pc := 31) (tgt := 38) dX0_goTowards_31 (by decide) (fun _ => ?_) (fun _ => ?_)
      · refine e_iconst (pc := 38) dX0_goTowards_38 kc_m1 ?_
        refine e_forget (L2 := [some (.ref a0), some (.int a1), none]) (And.intro rfl (And.intro rfl trivial)) ?_
        exact t_X0_goTowards_39 a0 a1 a2 (-1 : Int32) x4 a1 r3 w
      · refine e_iconst (pc := 34) dX0_goTowards_34 kc_1 ?_
        refine e_goto (pc := 35) (tgt := 39) dX0_goTowards_35 (by decide) ?_
        refine e_forget (L2 := [some (.ref a0), some (.int a1), none]) (And.intro rfl (And.intro rfl trivial)) ?_
        exact t_X0_goTowards_39 a0 a1 a2 (1 : Int32) x4 a1 r3 w
    · exact e_vret (pc := 16) dX0_goTowards_16 rfl
def M_X0_freeOnesAt : aM := (yX0_freeOnesAt, cX0_freeOnesAt, 4, (some .int), 1, 21)
theorem ok_X0_freeOnesAt : a_okM M_X0_freeOnesAt 1 := ⟨⟨by decide +kernel, by decide +kernel⟩, by decide +kernel, a_in 347 (by decide +kernel) rfl, a_in 77 (by decide +kernel) rfl⟩
theorem dX0_freeOnesAt_0 : decode M_X0_freeOnesAt.2.1 0 = .ok (.iconst 0, 1) := by decide +kernel
theorem dX0_freeOnesAt_1 : decode M_X0_freeOnesAt.2.1 1 = .ok (.istore_n 2, 1) := by decide +kernel
theorem dX0_freeOnesAt_2 : decode M_X0_freeOnesAt.2.1 2 = .ok (.iconst 0, 1) := by decide +kernel
theorem dX0_freeOnesAt_3 : decode M_X0_freeOnesAt.2.1 3 = .ok (.istore_n 3, 1) := by decide +kernel
theorem dX0_freeOnesAt_4 : decode M_X0_freeOnesAt.2.1 4 = .ok (.iload_n 3, 1) := by decide +kernel
theorem dX0_freeOnesAt_5 : decode M_X0_freeOnesAt.2.1 5 = .ok (.bipush 9, 2) := by decide +kernel
theorem dX0_freeOnesAt_7 : decode M_X0_freeOnesAt.2.1 7 = .ok (.if_icmp .ge 44, 3) := by decide +kernel
theorem dX0_freeOnesAt_10 : decode M_X0_freeOnesAt.2.1 10 = .ok (.aload_n 0, 1) := by decide +kernel
theorem dX0_freeOnesAt_11 : decode M_X0_freeOnesAt.2.1 11 = .ok (.iload_n 3, 1) := by decide +kernel
theorem dX0_freeOnesAt_12 : decode M_X0_freeOnesAt.2.1 12 = .ok (.invokevirtual 75, 3) := by decide +kernel
theorem dX0_freeOnesAt_15 : decode M_X0_freeOnesAt.2.1 15 = .ok (.ifCond .eq 30, 3) := by decide +kernel
theorem dX0_freeOnesAt_18 : decode M_X0_freeOnesAt.2.1 18 = .ok (.aload_n 0, 1) := by decide +kernel
theorem dX0_freeOnesAt_19 : decode M_X0_freeOnesAt.2.1 19 = .ok (.getfield 37, 3) := by decide +kernel
theorem dX0_freeOnesAt_22 : decode M_X0_freeOnesAt.2.1 22 = .ok (.iload_n 3, 1) := by decide +kernel
theorem dX0_freeOnesAt_23 : decode M_X0_freeOnesAt.2.1 23 = .ok (.iaload, 1) := by decide +kernel
theorem dX0_freeOnesAt_24 : decode M_X0_freeOnesAt.2.1 24 = .ok (.bipush (-4), 2) := by decide +kernel
theorem dX0_freeOnesAt_26 : decode M_X0_freeOnesAt.2.1 26 = .ok (.if_icmp .ne 19, 3) := by decide +kernel
theorem dX0_freeOnesAt_29 : decode M_X0_freeOnesAt.2.1 29 = .ok (.aload_n 0, 1) := by decide +kernel
theorem dX0_freeOnesAt_30 : decode M_X0_freeOnesAt.2.1 30 = .ok (.getfield 31, 3) := by decide +kernel
theorem dX0_freeOnesAt_33 : decode M_X0_freeOnesAt.2.1 33 = .ok (.iload_n 3, 1) := by decide +kernel
theorem dX0_freeOnesAt_34 : decode M_X0_freeOnesAt.2.1 34 = .ok (.iaload, 1) := by decide +kernel
theorem dX0_freeOnesAt_35 : decode M_X0_freeOnesAt.2.1 35 = .ok (.iload_n 1, 1) := by decide +kernel
theorem dX0_freeOnesAt_36 : decode M_X0_freeOnesAt.2.1 36 = .ok (.if_icmp .ne 9, 3) := by decide +kernel
theorem dX0_freeOnesAt_39 : decode M_X0_freeOnesAt.2.1 39 = .ok (.iload_n 2, 1) := by decide +kernel
theorem dX0_freeOnesAt_40 : decode M_X0_freeOnesAt.2.1 40 = .ok (.iconst 1, 1) := by decide +kernel
theorem dX0_freeOnesAt_41 : decode M_X0_freeOnesAt.2.1 41 = .ok (.iload_n 3, 1) := by decide +kernel
theorem dX0_freeOnesAt_42 : decode M_X0_freeOnesAt.2.1 42 = .ok (.ishl, 1) := by decide +kernel
theorem dX0_freeOnesAt_43 : decode M_X0_freeOnesAt.2.1 43 = .ok (.ior, 1) := by decide +kernel
theorem dX0_freeOnesAt_44 : decode M_X0_freeOnesAt.2.1 44 = .ok (.istore_n 2, 1) := by decide +kernel
theorem dX0_freeOnesAt_45 : decode M_X0_freeOnesAt.2.1 45 = .ok (.iinc 3 1, 3) := by decide +kernel
theorem dX0_freeOnesAt_48 : decode M_X0_freeOnesAt.2.1 48 = .ok (.goto (-44), 3) := by decide +kernel
theorem dX0_freeOnesAt_51 : decode M_X0_freeOnesAt.2.1 51 = .ok (.iload_n 2, 1) := by decide +kernel
theorem dX0_freeOnesAt_52 : decode M_X0_freeOnesAt.2.1 52 = .ok (.ireturn, 1) := by decide +kernel
def c_X0_freeOnesAt_4 (a0 : Nat) (a1 : Int32) (k4 : Int32 → Int32 → aW → Option (Int32 × aW)) (b2 : Int32) (b3 : Int32) (w : aW) : Option (Int32 × aW) :=
  if (9 : Int32) ≤ b3 then
    some (b2, w)
  else
    cV 0 w a0 (bk (f_X0_isAlive a0 b3 w) fun x2 w1 =>
    if x2 = (0 : Int32) then
      k4 b2 (b3 + 1) w1
    else
      (gR 0 w1 a0 8).bind fun r3 =>
      (gA w1 r3 b3).bind fun x4 =>
      if ¬ x4 = (-4 : Int32) then
        k4 b2 (b3 + 1) w1
      else
        (gR 0 w1 a0 6).bind fun r5 =>
        (gA w1 r5 b3).bind fun x6 =>
        if ¬ x6 = a1 then
          k4 b2 (b3 + 1) w1
        else
          k4 (b2 ||| ((1 : Int32) <<< (b3 &&& 31))) (b3 + 1) w1)
theorem t_X0_freeOnesAt_4 (a0 : Nat) (a1 : Int32) (k4 : Int32 → Int32 → aW → Option (Int32 × aW)) (hk4 : ∀ (b2 : Int32) (b3 : Int32) (w : aW), Ev rvI M_X0_freeOnesAt 4 [some (.ref a0), some (.int a1), some (.int b2), some (.int b3)] [] w (k4 b2 b3 w)) (b2 : Int32) (b3 : Int32) (w : aW) : Ev rvI M_X0_freeOnesAt 4 [some (.ref a0), some (.int a1), some (.int b2), some (.int b3)] [] w (c_X0_freeOnesAt_4 a0 a1 k4 b2 b3 w) := by
  unfold c_X0_freeOnesAt_4
  refine e_iload_n (pc := 4) dX0_freeOnesAt_4 rfl rfl ?_
  refine e_bipush (pc := 5) dX0_freeOnesAt_5 kb_9 ?_
  refine e_icmp_ge (pc := 7) (tgt := 51) dX0_freeOnesAt_7 (by decide) (fun _ => ?_) (fun _ => ?_)
  · refine e_iload_n (pc := 51) dX0_freeOnesAt_51 rfl rfl ?_
    exact e_iret (pc := 52) dX0_freeOnesAt_52 rfl rfl
  · refine e_aload_n (pc := 10) dX0_freeOnesAt_10 rfl rfl ?_
    refine e_iload_n (pc := 11) dX0_freeOnesAt_11 rfl rfl ?_
    refine e_callV (pc := 12) (av := [.int b3]) (S := []) (c0 := 0) rfl rfl ok_X0_isAlive ⟨Nat.le_of_ble_eq_true rfl, Nat.le_of_ble_eq_true rfl⟩ hv_X0_75 dX0_freeOnesAt_12 (s_X0_isAlive a0 b3 w) rfl rfl (Nat.le_of_ble_eq_true rfl) (fun x2 w1 => ?_)
    refine e_if_eq (pc := 15) (tgt := 45) dX0_freeOnesAt_15 (by decide) (fun _ => ?_) (fun _ => ?_)
    · refine e_iinc (L' := [some (.ref a0), some (.int a1), some (.int b2), some (.int (b3 + 1))]) (pc := 45) (v := 1) dX0_freeOnesAt_45 (by decide) rfl kc_1 rfl ?_
      refine e_goto (pc := 48) (tgt := 4) dX0_freeOnesAt_48 (by decide) ?_
      exact hk4 b2 (b3 + 1) w1
    · refine e_aload_n (pc := 18) dX0_freeOnesAt_18 rfl rfl ?_
      refine e_getR (pc := 19) dX0_freeOnesAt_19 hs_X0_37 (fun r3 => ?_)
      refine e_iload_n (pc := 22) dX0_freeOnesAt_22 rfl rfl ?_
      refine e_iald (pc := 23) dX0_freeOnesAt_23 (fun x4 => ?_)
      refine e_bipush (pc := 24) dX0_freeOnesAt_24 kb_m4 ?_
      refine e_icmp_ne (pc := 26) (tgt := 45) dX0_freeOnesAt_26 (by decide) (fun _ => ?_) (fun _ => ?_)
      · refine e_iinc (L' := [some (.ref a0), some (.int a1), some (.int b2), some (.int (b3 + 1))]) (pc := 45) (v := 1) dX0_freeOnesAt_45 (by decide) rfl kc_1 rfl ?_
        refine e_goto (pc := 48) (tgt := 4) dX0_freeOnesAt_48 (by decide) ?_
        exact hk4 b2 (b3 + 1) w1
      · refine e_aload_n (pc := 29) dX0_freeOnesAt_29 rfl rfl ?_
        refine e_getR (pc := 30) dX0_freeOnesAt_30 hs_X0_31 (fun r5 => ?_)
        refine e_iload_n (pc := 33) dX0_freeOnesAt_33 rfl rfl ?_
        refine e_iald (pc := 34) dX0_freeOnesAt_34 (fun x6 => ?_)
        refine e_iload_n (pc := 35) dX0_freeOnesAt_35 rfl rfl ?_
        refine e_icmp_ne (pc := 36) (tgt := 45) dX0_freeOnesAt_36 (by decide) (fun _ => ?_) (fun _ => ?_)
        · refine e_iinc (L' := [some (.ref a0), some (.int a1), some (.int b2), some (.int (b3 + 1))]) (pc := 45) (v := 1) dX0_freeOnesAt_45 (by decide) rfl kc_1 rfl ?_
          refine e_goto (pc := 48) (tgt := 4) dX0_freeOnesAt_48 (by decide) ?_
          exact hk4 b2 (b3 + 1) w1
        · refine e_iload_n (pc := 39) dX0_freeOnesAt_39 rfl rfl ?_
          refine e_iconst (pc := 40) dX0_freeOnesAt_40 kc_1 ?_
          refine e_iload_n (pc := 41) dX0_freeOnesAt_41 rfl rfl ?_
          refine e_ishl (pc := 42) dX0_freeOnesAt_42 ?_
          refine e_ior (pc := 43) dX0_freeOnesAt_43 ?_
          refine e_istore_n (L' := [some (.ref a0), some (.int a1), some (.int (b2 ||| ((1 : Int32) <<< (b3 &&& 31)))), some (.int b3)]) (pc := 44) dX0_freeOnesAt_44 rfl (by decide) rfl ?_
          refine e_iinc (L' := [some (.ref a0), some (.int a1), some (.int (b2 ||| ((1 : Int32) <<< (b3 &&& 31)))), some (.int (b3 + 1))]) (pc := 45) (v := 1) dX0_freeOnesAt_45 (by decide) rfl kc_1 rfl ?_
          refine e_goto (pc := 48) (tgt := 4) dX0_freeOnesAt_48 (by decide) ?_
          exact hk4 (b2 ||| ((1 : Int32) <<< (b3 &&& 31))) (b3 + 1) w1
def f_X0_freeOnesAt (a0 : Nat) (a1 : Int32) (w : aW) : Option (Int32 × aW) :=
  loop3 (c_X0_freeOnesAt_4 a0 a1) a_fuel (0 : Int32) (0 : Int32) w
theorem s_X0_freeOnesAt (a0 : Nat) (a1 : Int32) (w : aW) : Sp rvI M_X0_freeOnesAt [.ref a0, .int a1] w (f_X0_freeOnesAt a0 a1 w) := by
  refine e_entry [some (.ref a0), some (.int a1), none, none] (by decide +kernel) (Nat.le_of_ble_eq_true rfl) (fun _ => rfl) ?_
  unfold f_X0_freeOnesAt
  refine e_iconst (pc := 0) dX0_freeOnesAt_0 kc_0 ?_
  refine e_istore_n (L' := [some (.ref a0), some (.int a1), some (.int (0 : Int32)), none]) (pc := 1) dX0_freeOnesAt_1 rfl (by decide) rfl ?_
  refine e_iconst (pc := 2) dX0_freeOnesAt_2 kc_0 ?_
  refine e_istore_n (L' := [some (.ref a0), some (.int a1), some (.int (0 : Int32)), some (.int (0 : Int32))]) (pc := 3) dX0_freeOnesAt_3 rfl (by decide) rfl ?_
  exact e_loop3 (L := fun b2 b3 => [some (.ref a0), some (.int a1), some (.int b2), some (.int b3)]) (S := fun b2 b3 => []) (fun kf hkf => t_X0_freeOnesAt_4 a0 a1  kf hkf) _ (0 : Int32) (0 : Int32) w
def M_X3_has : aM := (yX3_has, cX3_has, 2, (some .boolean), 0, 0)
theorem ok_X3_has : a_okM M_X3_has 2 := ⟨⟨by decide +kernel, by decide +kernel⟩, by decide +kernel, a_in 354 (by decide +kernel) rfl, a_in 76 (by decide +kernel) rfl⟩
theorem dX3_has_0 : decode M_X3_has.2.1 0 = .ok (.iload_n 0, 1) := by decide +kernel
theorem dX3_has_1 : decode M_X3_has.2.1 1 = .ok (.iload_n 1, 1) := by decide +kernel
theorem dX3_has_2 : decode M_X3_has.2.1 2 = .ok (.ishr, 1) := by decide +kernel
theorem dX3_has_3 : decode M_X3_has.2.1 3 = .ok (.iconst 1, 1) := by decide +kernel
theorem dX3_has_4 : decode M_X3_has.2.1 4 = .ok (.iand, 1) := by decide +kernel
theorem dX3_has_5 : decode M_X3_has.2.1 5 = .ok (.iconst 1, 1) := by decide +kernel
theorem dX3_has_6 : decode M_X3_has.2.1 6 = .ok (.if_icmp .ne 7, 3) := by decide +kernel
theorem dX3_has_9 : decode M_X3_has.2.1 9 = .ok (.iconst 1, 1) := by decide +kernel
theorem dX3_has_10 : decode M_X3_has.2.1 10 = .ok (.goto 4, 3) := by decide +kernel
theorem dX3_has_13 : decode M_X3_has.2.1 13 = .ok (.iconst 0, 1) := by decide +kernel
theorem dX3_has_14 : decode M_X3_has.2.1 14 = .ok (.ireturn, 1) := by decide +kernel
def f_X3_has (a0 : Int32) (a1 : Int32) (w : aW) : Option (Int32 × aW) :=
  if ¬ ((a0 >>> (a1 &&& 31)) &&& (1 : Int32)) = (1 : Int32) then
    some ((0 : Int32), w)
  else
    some ((1 : Int32), w)
theorem s_X3_has (a0 : Int32) (a1 : Int32) (w : aW) : Sp rvI M_X3_has [.int a0, .int a1] w (f_X3_has a0 a1 w) := by
  refine e_entry [some (.int a0), some (.int a1)] (by decide +kernel) (Nat.le_of_ble_eq_true rfl) (fun _ => rfl) ?_
  unfold f_X3_has
  refine e_iload_n (pc := 0) dX3_has_0 rfl rfl ?_
  refine e_iload_n (pc := 1) dX3_has_1 rfl rfl ?_
  refine e_ishr (pc := 2) dX3_has_2 ?_
  refine e_iconst (pc := 3) dX3_has_3 kc_1 ?_
  refine e_iand (pc := 4) dX3_has_4 ?_
  refine e_iconst (pc := 5) dX3_has_5 kc_1 ?_
  refine e_icmp_ne (pc := 6) (tgt := 13) dX3_has_6 (by decide) (fun _ => ?_) (fun _ => ?_)
  · refine e_iconst (pc := 13) dX3_has_13 kc_0 ?_
    exact e_iret (pc := 14) dX3_has_14 rfl (a_nb (by decide))
  · refine e_iconst (pc := 9) dX3_has_9 kc_1 ?_
    refine e_goto (pc := 10) (tgt := 14) dX3_has_10 (by decide) ?_
    exact e_iret (pc := 14) dX3_has_14 rfl (a_nb (by decide))
def M_X0_hungryOneOf : aM := (yX0_hungryOneOf, cX0_hungryOneOf, 3, (some .int), 1, 21)
theorem ok_X0_hungryOneOf : a_okM M_X0_hungryOneOf 1 := ⟨⟨by decide +kernel, by decide +kernel⟩, by decide +kernel, a_in 351 (by decide +kernel) rfl, a_in 77 (by decide +kernel) rfl⟩
theorem dX0_hungryOneOf_0 : decode M_X0_hungryOneOf.2.1 0 = .ok (.iconst 0, 1) := by decide +kernel
theorem dX0_hungryOneOf_1 : decode M_X0_hungryOneOf.2.1 1 = .ok (.istore_n 2, 1) := by decide +kernel
theorem dX0_hungryOneOf_2 : decode M_X0_hungryOneOf.2.1 2 = .ok (.iload_n 2, 1) := by decide +kernel
theorem dX0_hungryOneOf_3 : decode M_X0_hungryOneOf.2.1 3 = .ok (.bipush 9, 2) := by decide +kernel
theorem dX0_hungryOneOf_5 : decode M_X0_hungryOneOf.2.1 5 = .ok (.if_icmp .ge 31, 3) := by decide +kernel
theorem dX0_hungryOneOf_8 : decode M_X0_hungryOneOf.2.1 8 = .ok (.iload_n 1, 1) := by decide +kernel
theorem dX0_hungryOneOf_9 : decode M_X0_hungryOneOf.2.1 9 = .ok (.iload_n 2, 1) := by decide +kernel
theorem dX0_hungryOneOf_10 : decode M_X0_hungryOneOf.2.1 10 = .ok (.invokestatic 91, 3) := by decide +kernel
theorem dX0_hungryOneOf_13 : decode M_X0_hungryOneOf.2.1 13 = .ok (.ifCond .eq 17, 3) := by decide +kernel
theorem dX0_hungryOneOf_16 : decode M_X0_hungryOneOf.2.1 16 = .ok (.aload_n 0, 1) := by decide +kernel
theorem dX0_hungryOneOf_17 : decode M_X0_hungryOneOf.2.1 17 = .ok (.getfield 34, 3) := by decide +kernel
theorem dX0_hungryOneOf_20 : decode M_X0_hungryOneOf.2.1 20 = .ok (.iload_n 2, 1) := by decide +kernel
theorem dX0_hungryOneOf_21 : decode M_X0_hungryOneOf.2.1 21 = .ok (.iaload, 1) := by decide +kernel
theorem dX0_hungryOneOf_22 : decode M_X0_hungryOneOf.2.1 22 = .ok (.iconst 5, 1) := by decide +kernel
theorem dX0_hungryOneOf_23 : decode M_X0_hungryOneOf.2.1 23 = .ok (.if_icmp .lt 7, 3) := by decide +kernel
theorem dX0_hungryOneOf_26 : decode M_X0_hungryOneOf.2.1 26 = .ok (.iconst 1, 1) := by decide +kernel
theorem dX0_hungryOneOf_27 : decode M_X0_hungryOneOf.2.1 27 = .ok (.iload_n 2, 1) := by decide +kernel
theorem dX0_hungryOneOf_28 : decode M_X0_hungryOneOf.2.1 28 = .ok (.ishl, 1) := by decide +kernel
theorem dX0_hungryOneOf_29 : decode M_X0_hungryOneOf.2.1 29 = .ok (.ireturn, 1) := by decide +kernel
theorem dX0_hungryOneOf_30 : decode M_X0_hungryOneOf.2.1 30 = .ok (.iinc 2 1, 3) := by decide +kernel
theorem dX0_hungryOneOf_33 : decode M_X0_hungryOneOf.2.1 33 = .ok (.goto (-31), 3) := by decide +kernel
theorem dX0_hungryOneOf_36 : decode M_X0_hungryOneOf.2.1 36 = .ok (.iconst 0, 1) := by decide +kernel
theorem dX0_hungryOneOf_37 : decode M_X0_hungryOneOf.2.1 37 = .ok (.ireturn, 1) := by decide +kernel
theorem hn_X0_91 : a_okN RX0 M_X3_has 91 := ⟨⟨"WhoeverNamesIt", a_inN 352 (by decide +kernel) rfl⟩, a_in 353 (by decide +kernel) rfl⟩
def c_X0_hungryOneOf_2 (a0 : Nat) (a1 : Int32) (k2 : Int32 → aW → Option (Int32 × aW)) (b2 : Int32) (w : aW) : Option (Int32 × aW) :=
  if (9 : Int32) ≤ b2 then
    some ((0 : Int32), w)
  else
    bk (f_X3_has a1 b2 w) fun x2 w1 =>
    if x2 = (0 : Int32) then
      k2 (b2 + 1) w1
    else
      (gR 0 w1 a0 7).bind fun r3 =>
      (gA w1 r3 b2).bind fun x4 =>
      if x4 < (5 : Int32) then
        k2 (b2 + 1) w1
      else
        some (((1 : Int32) <<< (b2 &&& 31)), w1)
theorem t_X0_hungryOneOf_2 (a0 : Nat) (a1 : Int32) (k2 : Int32 → aW → Option (Int32 × aW)) (hk2 : ∀ (b2 : Int32) (w : aW), Ev rvI M_X0_hungryOneOf 2 [some (.ref a0), some (.int a1), some (.int b2)] [] w (k2 b2 w)) (b2 : Int32) (w : aW) : Ev rvI M_X0_hungryOneOf 2 [some (.ref a0), some (.int a1), some (.int b2)] [] w (c_X0_hungryOneOf_2 a0 a1 k2 b2 w) := by
  unfold c_X0_hungryOneOf_2
  refine e_iload_n (pc := 2) dX0_hungryOneOf_2 rfl rfl ?_
  refine e_bipush (pc := 3) dX0_hungryOneOf_3 kb_9 ?_
  refine e_icmp_ge (pc := 5) (tgt := 36) dX0_hungryOneOf_5 (by decide) (fun _ => ?_) (fun _ => ?_)
  · refine e_iconst (pc := 36) dX0_hungryOneOf_36 kc_0 ?_
    exact e_iret (pc := 37) dX0_hungryOneOf_37 rfl rfl
  · refine e_iload_n (pc := 8) dX0_hungryOneOf_8 rfl rfl ?_
    refine e_iload_n (pc := 9) dX0_hungryOneOf_9 rfl rfl ?_
    refine e_callN (pc := 10) (av := [.int a1, .int b2]) (S := []) ok_X3_has ⟨Nat.le_of_ble_eq_true rfl, Nat.le_of_ble_eq_true rfl⟩ hn_X0_91 dX0_hungryOneOf_10 (s_X3_has a1 b2 w) rfl rfl (Nat.le_of_ble_eq_true rfl) (fun x2 w1 => ?_)
    refine e_if_eq (pc := 13) (tgt := 30) dX0_hungryOneOf_13 (by decide) (fun _ => ?_) (fun _ => ?_)
    · refine e_iinc (L' := [some (.ref a0), some (.int a1), some (.int (b2 + 1))]) (pc := 30) (v := 1) dX0_hungryOneOf_30 (by decide) rfl kc_1 rfl ?_
      refine e_goto (pc := 33) (tgt := 2) dX0_hungryOneOf_33 (by decide) ?_
      exact hk2 (b2 + 1) w1
    · refine e_aload_n (pc := 16) dX0_hungryOneOf_16 rfl rfl ?_
      refine e_getR (pc := 17) dX0_hungryOneOf_17 hs_X0_34 (fun r3 => ?_)
      refine e_iload_n (pc := 20) dX0_hungryOneOf_20 rfl rfl ?_
      refine e_iald (pc := 21) dX0_hungryOneOf_21 (fun x4 => ?_)
      refine e_iconst (pc := 22) dX0_hungryOneOf_22 kc_5 ?_
      refine e_icmp_lt (pc := 23) (tgt := 30) dX0_hungryOneOf_23 (by decide) (fun _ => ?_) (fun _ => ?_)
      · refine e_iinc (L' := [some (.ref a0), some (.int a1), some (.int (b2 + 1))]) (pc := 30) (v := 1) dX0_hungryOneOf_30 (by decide) rfl kc_1 rfl ?_
        refine e_goto (pc := 33) (tgt := 2) dX0_hungryOneOf_33 (by decide) ?_
        exact hk2 (b2 + 1) w1
      · refine e_iconst (pc := 26) dX0_hungryOneOf_26 kc_1 ?_
        refine e_iload_n (pc := 27) dX0_hungryOneOf_27 rfl rfl ?_
        refine e_ishl (pc := 28) dX0_hungryOneOf_28 ?_
        exact e_iret (pc := 29) dX0_hungryOneOf_29 rfl rfl
def f_X0_hungryOneOf (a0 : Nat) (a1 : Int32) (w : aW) : Option (Int32 × aW) :=
  loop2 (c_X0_hungryOneOf_2 a0 a1) a_fuel (0 : Int32) w
theorem s_X0_hungryOneOf (a0 : Nat) (a1 : Int32) (w : aW) : Sp rvI M_X0_hungryOneOf [.ref a0, .int a1] w (f_X0_hungryOneOf a0 a1 w) := by
  refine e_entry [some (.ref a0), some (.int a1), none] (by decide +kernel) (Nat.le_of_ble_eq_true rfl) (fun _ => rfl) ?_
  unfold f_X0_hungryOneOf
  refine e_iconst (pc := 0) dX0_hungryOneOf_0 kc_0 ?_
  refine e_istore_n (L' := [some (.ref a0), some (.int a1), some (.int (0 : Int32))]) (pc := 1) dX0_hungryOneOf_1 rfl (by decide) rfl ?_
  exact e_loop2 (L := fun b2 => [some (.ref a0), some (.int a1), some (.int b2)]) (S := fun b2 => []) (fun kf hkf => t_X0_hungryOneOf_2 a0 a1  kf hkf) _ (0 : Int32) w
