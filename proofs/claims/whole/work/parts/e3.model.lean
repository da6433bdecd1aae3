def M_X4_init : aM := (yX4_init, cX4_init, 2, none, 1, 12)
theorem ok_X4_init : a_okM M_X4_init 0 := ⟨⟨by decide +kernel, by decide +kernel⟩, by decide +kernel, a_in 863 (by decide +kernel) rfl, a_in 79 (by decide +kernel) rfl⟩
theorem dX4_init_0 : decode M_X4_init.2.1 0 = .ok (.aload_n 0, 1) := by decide +kernel
theorem dX4_init_1 : decode M_X4_init.2.1 1 = .ok (.invokespecial 1, 3) := by decide +kernel
theorem dX4_init_4 : decode M_X4_init.2.1 4 = .ok (.aload_n 0, 1) := by decide +kernel
theorem dX4_init_5 : decode M_X4_init.2.1 5 = .ok (.bipush 9, 2) := by decide +kernel
theorem dX4_init_7 : decode M_X4_init.2.1 7 = .ok (.newarray .int, 2) := by decide +kernel
theorem dX4_init_9 : decode M_X4_init.2.1 9 = .ok (.putfield 7, 3) := by decide +kernel
theorem dX4_init_12 : decode M_X4_init.2.1 12 = .ok (.aload_n 0, 1) := by decide +kernel
theorem dX4_init_13 : decode M_X4_init.2.1 13 = .ok (.bipush 9, 2) := by decide +kernel
theorem dX4_init_15 : decode M_X4_init.2.1 15 = .ok (.newarray .int, 2) := by decide +kernel
theorem dX4_init_17 : decode M_X4_init.2.1 17 = .ok (.putfield 13, 3) := by decide +kernel
theorem dX4_init_20 : decode M_X4_init.2.1 20 = .ok (.aload_n 0, 1) := by decide +kernel
theorem dX4_init_21 : decode M_X4_init.2.1 21 = .ok (.bipush 9, 2) := by decide +kernel
theorem dX4_init_23 : decode M_X4_init.2.1 23 = .ok (.newarray .int, 2) := by decide +kernel
theorem dX4_init_25 : decode M_X4_init.2.1 25 = .ok (.putfield 16, 3) := by decide +kernel
theorem dX4_init_28 : decode M_X4_init.2.1 28 = .ok (.aload_n 0, 1) := by decide +kernel
theorem dX4_init_29 : decode M_X4_init.2.1 29 = .ok (.bipush 9, 2) := by decide +kernel
theorem dX4_init_31 : decode M_X4_init.2.1 31 = .ok (.newarray .int, 2) := by decide +kernel
theorem dX4_init_33 : decode M_X4_init.2.1 33 = .ok (.putfield 19, 3) := by decide +kernel
theorem dX4_init_36 : decode M_X4_init.2.1 36 = .ok (.aload_n 0, 1) := by decide +kernel
theorem dX4_init_37 : decode M_X4_init.2.1 37 = .ok (.bipush 9, 2) := by decide +kernel
theorem dX4_init_39 : decode M_X4_init.2.1 39 = .ok (.newarray .int, 2) := by decide +kernel
theorem dX4_init_41 : decode M_X4_init.2.1 41 = .ok (.putfield 22, 3) := by decide +kernel
theorem dX4_init_44 : decode M_X4_init.2.1 44 = .ok (.aload_n 0, 1) := by decide +kernel
theorem dX4_init_45 : decode M_X4_init.2.1 45 = .ok (.iconst 5, 1) := by decide +kernel
theorem dX4_init_46 : decode M_X4_init.2.1 46 = .ok (.newarray .int, 2) := by decide +kernel
theorem dX4_init_48 : decode M_X4_init.2.1 48 = .ok (.putfield 25, 3) := by decide +kernel
theorem dX4_init_51 : decode M_X4_init.2.1 51 = .ok (.aload_n 0, 1) := by decide +kernel
theorem dX4_init_52 : decode M_X4_init.2.1 52 = .ok (.iconst 5, 1) := by decide +kernel
theorem dX4_init_53 : decode M_X4_init.2.1 53 = .ok (.newarray .int, 2) := by decide +kernel
theorem dX4_init_55 : decode M_X4_init.2.1 55 = .ok (.putfield 28, 3) := by decide +kernel
theorem dX4_init_58 : decode M_X4_init.2.1 58 = .ok (.aload_n 0, 1) := by decide +kernel
theorem dX4_init_59 : decode M_X4_init.2.1 59 = .ok (.iconst 5, 1) := by decide +kernel
theorem dX4_init_60 : decode M_X4_init.2.1 60 = .ok (.newarray .int, 2) := by decide +kernel
theorem dX4_init_62 : decode M_X4_init.2.1 62 = .ok (.putfield 31, 3) := by decide +kernel
theorem dX4_init_65 : decode M_X4_init.2.1 65 = .ok (.aload_n 0, 1) := by decide +kernel
theorem dX4_init_66 : decode M_X4_init.2.1 66 = .ok (.iconst 5, 1) := by decide +kernel
theorem dX4_init_67 : decode M_X4_init.2.1 67 = .ok (.newarray .int, 2) := by decide +kernel
theorem dX4_init_69 : decode M_X4_init.2.1 69 = .ok (.putfield 34, 3) := by decide +kernel
theorem dX4_init_72 : decode M_X4_init.2.1 72 = .ok (.aload_n 0, 1) := by decide +kernel
theorem dX4_init_73 : decode M_X4_init.2.1 73 = .ok (.bipush 8, 2) := by decide +kernel
theorem dX4_init_75 : decode M_X4_init.2.1 75 = .ok (.newarray .int, 2) := by decide +kernel
theorem dX4_init_77 : decode M_X4_init.2.1 77 = .ok (.putfield 37, 3) := by decide +kernel
theorem dX4_init_80 : decode M_X4_init.2.1 80 = .ok (.aload_n 0, 1) := by decide +kernel
theorem dX4_init_81 : decode M_X4_init.2.1 81 = .ok (.bipush 8, 2) := by decide +kernel
theorem dX4_init_83 : decode M_X4_init.2.1 83 = .ok (.newarray .int, 2) := by decide +kernel
theorem dX4_init_85 : decode M_X4_init.2.1 85 = .ok (.putfield 40, 3) := by decide +kernel
theorem dX4_init_88 : decode M_X4_init.2.1 88 = .ok (.aload_n 0, 1) := by decide +kernel
theorem dX4_init_89 : decode M_X4_init.2.1 89 = .ok (.bipush 8, 2) := by decide +kernel
theorem dX4_init_91 : decode M_X4_init.2.1 91 = .ok (.newarray .int, 2) := by decide +kernel
theorem dX4_init_93 : decode M_X4_init.2.1 93 = .ok (.putfield 43, 3) := by decide +kernel
theorem dX4_init_96 : decode M_X4_init.2.1 96 = .ok (.aload_n 0, 1) := by decide +kernel
theorem dX4_init_97 : decode M_X4_init.2.1 97 = .ok (.bipush 8, 2) := by decide +kernel
theorem dX4_init_99 : decode M_X4_init.2.1 99 = .ok (.newarray .int, 2) := by decide +kernel
theorem dX4_init_101 : decode M_X4_init.2.1 101 = .ok (.putfield 46, 3) := by decide +kernel
theorem dX4_init_104 : decode M_X4_init.2.1 104 = .ok (.aload_n 0, 1) := by decide +kernel
theorem dX4_init_105 : decode M_X4_init.2.1 105 = .ok (.bipush 8, 2) := by decide +kernel
theorem dX4_init_107 : decode M_X4_init.2.1 107 = .ok (.newarray .int, 2) := by decide +kernel
theorem dX4_init_109 : decode M_X4_init.2.1 109 = .ok (.putfield 49, 3) := by decide +kernel
theorem dX4_init_112 : decode M_X4_init.2.1 112 = .ok (.aload_n 0, 1) := by decide +kernel
theorem dX4_init_113 : decode M_X4_init.2.1 113 = .ok (.sipush 800, 3) := by decide +kernel
theorem dX4_init_116 : decode M_X4_init.2.1 116 = .ok (.newarray .long, 2) := by decide +kernel
theorem dX4_init_118 : decode M_X4_init.2.1 118 = .ok (.putfield 52, 3) := by decide +kernel
theorem dX4_init_121 : decode M_X4_init.2.1 121 = .ok (.aload_n 0, 1) := by decide +kernel
theorem dX4_init_122 : decode M_X4_init.2.1 122 = .ok (.bipush 51, 2) := by decide +kernel
theorem dX4_init_124 : decode M_X4_init.2.1 124 = .ok (.newarray .int, 2) := by decide +kernel
theorem dX4_init_126 : decode M_X4_init.2.1 126 = .ok (.putfield 56, 3) := by decide +kernel
theorem dX4_init_129 : decode M_X4_init.2.1 129 = .ok (.aload_n 0, 1) := by decide +kernel
theorem dX4_init_130 : decode M_X4_init.2.1 130 = .ok (.bipush 51, 2) := by decide +kernel
theorem dX4_init_132 : decode M_X4_init.2.1 132 = .ok (.newarray .int, 2) := by decide +kernel
theorem dX4_init_134 : decode M_X4_init.2.1 134 = .ok (.putfield 59, 3) := by decide +kernel
theorem dX4_init_137 : decode M_X4_init.2.1 137 = .ok (.aload_n 0, 1) := by decide +kernel
theorem dX4_init_138 : decode M_X4_init.2.1 138 = .ok (.sipush 204, 3) := by decide +kernel
theorem dX4_init_141 : decode M_X4_init.2.1 141 = .ok (.newarray .int, 2) := by decide +kernel
theorem dX4_init_143 : decode M_X4_init.2.1 143 = .ok (.putfield 62, 3) := by decide +kernel
theorem dX4_init_146 : decode M_X4_init.2.1 146 = .ok (.aload_n 0, 1) := by decide +kernel
theorem dX4_init_147 : decode M_X4_init.2.1 147 = .ok (.bipush 68, 2) := by decide +kernel
theorem dX4_init_149 : decode M_X4_init.2.1 149 = .ok (.newarray .int, 2) := by decide +kernel
theorem dX4_init_151 : decode M_X4_init.2.1 151 = .ok (.putfield 65, 3) := by decide +kernel
theorem dX4_init_154 : decode M_X4_init.2.1 154 = .ok (.aload_n 0, 1) := by decide +kernel
theorem dX4_init_155 : decode M_X4_init.2.1 155 = .ok (.bipush 68, 2) := by decide +kernel
theorem dX4_init_157 : decode M_X4_init.2.1 157 = .ok (.newarray .int, 2) := by decide +kernel
theorem dX4_init_159 : decode M_X4_init.2.1 159 = .ok (.putfield 68, 3) := by decide +kernel
theorem dX4_init_162 : decode M_X4_init.2.1 162 = .ok (.aload_n 0, 1) := by decide +kernel
theorem dX4_init_163 : decode M_X4_init.2.1 163 = .ok (.bipush 9, 2) := by decide +kernel
theorem dX4_init_165 : decode M_X4_init.2.1 165 = .ok (.newarray .int, 2) := by decide +kernel
theorem dX4_init_167 : decode M_X4_init.2.1 167 = .ok (.putfield 71, 3) := by decide +kernel
theorem dX4_init_170 : decode M_X4_init.2.1 170 = .ok (.aload_n 0, 1) := by decide +kernel
theorem dX4_init_171 : decode M_X4_init.2.1 171 = .ok (.bipush 8, 2) := by decide +kernel
theorem dX4_init_173 : decode M_X4_init.2.1 173 = .ok (.newarray .int, 2) := by decide +kernel
theorem dX4_init_175 : decode M_X4_init.2.1 175 = .ok (.putfield 74, 3) := by decide +kernel
theorem dX4_init_178 : decode M_X4_init.2.1 178 = .ok (.aload_n 0, 1) := by decide +kernel
theorem dX4_init_179 : decode M_X4_init.2.1 179 = .ok (.bipush 100, 2) := by decide +kernel
theorem dX4_init_181 : decode M_X4_init.2.1 181 = .ok (.newarray .long, 2) := by decide +kernel
theorem dX4_init_183 : decode M_X4_init.2.1 183 = .ok (.putfield 77, 3) := by decide +kernel
theorem dX4_init_186 : decode M_X4_init.2.1 186 = .ok (.aload_n 0, 1) := by decide +kernel
theorem dX4_init_187 : decode M_X4_init.2.1 187 = .ok (.iconst 0, 1) := by decide +kernel
theorem dX4_init_188 : decode M_X4_init.2.1 188 = .ok (.putfield 80, 3) := by decide +kernel
theorem dX4_init_191 : decode M_X4_init.2.1 191 = .ok (.iconst 0, 1) := by decide +kernel
theorem dX4_init_192 : decode M_X4_init.2.1 192 = .ok (.istore_n 1, 1) := by decide +kernel
theorem dX4_init_193 : decode M_X4_init.2.1 193 = .ok (.iload_n 1, 1) := by decide +kernel
theorem dX4_init_194 : decode M_X4_init.2.1 194 = .ok (.iconst 5, 1) := by decide +kernel
theorem dX4_init_195 : decode M_X4_init.2.1 195 = .ok (.if_icmp .ge 26, 3) := by decide +kernel
theorem dX4_init_198 : decode M_X4_init.2.1 198 = .ok (.aload_n 0, 1) := by decide +kernel
theorem dX4_init_199 : decode M_X4_init.2.1 199 = .ok (.getfield 25, 3) := by decide +kernel
theorem dX4_init_202 : decode M_X4_init.2.1 202 = .ok (.iload_n 1, 1) := by decide +kernel
theorem dX4_init_203 : decode M_X4_init.2.1 203 = .ok (.bipush 40, 2) := by decide +kernel
theorem dX4_init_205 : decode M_X4_init.2.1 205 = .ok (.iastore, 1) := by decide +kernel
theorem dX4_init_206 : decode M_X4_init.2.1 206 = .ok (.aload_n 0, 1) := by decide +kernel
theorem dX4_init_207 : decode M_X4_init.2.1 207 = .ok (.getfield 28, 3) := by decide +kernel
theorem dX4_init_210 : decode M_X4_init.2.1 210 = .ok (.iload_n 1, 1) := by decide +kernel
theorem dX4_init_211 : decode M_X4_init.2.1 211 = .ok (.iconst 3, 1) := by decide +kernel
theorem dX4_init_212 : decode M_X4_init.2.1 212 = .ok (.iload_n 1, 1) := by decide +kernel
theorem dX4_init_213 : decode M_X4_init.2.1 213 = .ok (.imul, 1) := by decide +kernel
theorem dX4_init_214 : decode M_X4_init.2.1 214 = .ok (.iastore, 1) := by decide +kernel
theorem dX4_init_215 : decode M_X4_init.2.1 215 = .ok (.iinc 1 1, 3) := by decide +kernel
theorem dX4_init_218 : decode M_X4_init.2.1 218 = .ok (.goto (-25), 3) := by decide +kernel
theorem dX4_init_221 : decode M_X4_init.2.1 221 = .ok (.return_, 1) := by decide +kernel
theorem hF_X4_7 : a_fF RX4 7 3 1 (.array .int) := ⟨RX4, TX4, 37, tyX4, rfl, tin_X4, by decide, a_in 866 (by decide +kernel) rfl, tyX4_ok, nmX4, rfl, by decide +kernel, rfl⟩
theorem hF_X4_13 : a_fF RX4 13 3 2 (.array .int) := ⟨RX4, TX4, 37, tyX4, rfl, tin_X4, by decide, a_in 867 (by decide +kernel) rfl, tyX4_ok, nmX4, rfl, by decide +kernel, rfl⟩
theorem hF_X4_16 : a_fF RX4 16 3 3 (.array .int) := ⟨RX4, TX4, 37, tyX4, rfl, tin_X4, by decide, a_in 868 (by decide +kernel) rfl, tyX4_ok, nmX4, rfl, by decide +kernel, rfl⟩
theorem hF_X4_19 : a_fF RX4 19 3 4 (.array .int) := ⟨RX4, TX4, 37, tyX4, rfl, tin_X4, by decide, a_in 869 (by decide +kernel) rfl, tyX4_ok, nmX4, rfl, by decide +kernel, rfl⟩
theorem hF_X4_22 : a_fF RX4 22 3 5 (.array .int) := ⟨RX4, TX4, 37, tyX4, rfl, tin_X4, by decide, a_in 870 (by decide +kernel) rfl, tyX4_ok, nmX4, rfl, by decide +kernel, rfl⟩
theorem hF_X4_25 : a_fF RX4 25 3 7 (.array .int) := ⟨RX4, TX4, 37, tyX4, rfl, tin_X4, by decide, a_in 872 (by decide +kernel) rfl, tyX4_ok, nmX4, rfl, by decide +kernel, rfl⟩
theorem hF_X4_28 : a_fF RX4 28 3 8 (.array .int) := ⟨RX4, TX4, 37, tyX4, rfl, tin_X4, by decide, a_in 873 (by decide +kernel) rfl, tyX4_ok, nmX4, rfl, by decide +kernel, rfl⟩
theorem hF_X4_31 : a_fF RX4 31 3 9 (.array .int) := ⟨RX4, TX4, 37, tyX4, rfl, tin_X4, by decide, a_in 874 (by decide +kernel) rfl, tyX4_ok, nmX4, rfl, by decide +kernel, rfl⟩
theorem hF_X4_34 : a_fF RX4 34 3 10 (.array .int) := ⟨RX4, TX4, 37, tyX4, rfl, tin_X4, by decide, a_in 875 (by decide +kernel) rfl, tyX4_ok, nmX4, rfl, by decide +kernel, rfl⟩
theorem hF_X4_37 : a_fF RX4 37 3 13 (.array .int) := ⟨RX4, TX4, 37, tyX4, rfl, tin_X4, by decide, a_in 878 (by decide +kernel) rfl, tyX4_ok, nmX4, rfl, by decide +kernel, rfl⟩
theorem hF_X4_40 : a_fF RX4 40 3 14 (.array .int) := ⟨RX4, TX4, 37, tyX4, rfl, tin_X4, by decide, a_in 879 (by decide +kernel) rfl, tyX4_ok, nmX4, rfl, by decide +kernel, rfl⟩
theorem hF_X4_43 : a_fF RX4 43 3 15 (.array .int) := ⟨RX4, TX4, 37, tyX4, rfl, tin_X4, by decide, a_in 880 (by decide +kernel) rfl, tyX4_ok, nmX4, rfl, by decide +kernel, rfl⟩
theorem hF_X4_46 : a_fF RX4 46 3 16 (.array .int) := ⟨RX4, TX4, 37, tyX4, rfl, tin_X4, by decide, a_in 881 (by decide +kernel) rfl, tyX4_ok, nmX4, rfl, by decide +kernel, rfl⟩
theorem hF_X4_49 : a_fF RX4 49 3 17 (.array .int) := ⟨RX4, TX4, 37, tyX4, rfl, tin_X4, by decide, a_in 882 (by decide +kernel) rfl, tyX4_ok, nmX4, rfl, by decide +kernel, rfl⟩
theorem hF_X4_52 : a_fF RX4 52 3 18 (.array .long) := ⟨RX4, TX4, 37, tyX4, rfl, tin_X4, by decide, a_in 883 (by decide +kernel) rfl, tyX4_ok, nmX4, rfl, by decide +kernel, rfl⟩
theorem hF_X4_56 : a_fF RX4 56 3 24 (.array .int) := ⟨RX4, TX4, 37, tyX4, rfl, tin_X4, by decide, a_in 889 (by decide +kernel) rfl, tyX4_ok, nmX4, rfl, by decide +kernel, rfl⟩
theorem hF_X4_59 : a_fF RX4 59 3 25 (.array .int) := ⟨RX4, TX4, 37, tyX4, rfl, tin_X4, by decide, a_in 890 (by decide +kernel) rfl, tyX4_ok, nmX4, rfl, by decide +kernel, rfl⟩
theorem hF_X4_62 : a_fF RX4 62 3 26 (.array .int) := ⟨RX4, TX4, 37, tyX4, rfl, tin_X4, by decide, a_in 891 (by decide +kernel) rfl, tyX4_ok, nmX4, rfl, by decide +kernel, rfl⟩
theorem hF_X4_65 : a_fF RX4 65 3 27 (.array .int) := ⟨RX4, TX4, 37, tyX4, rfl, tin_X4, by decide, a_in 892 (by decide +kernel) rfl, tyX4_ok, nmX4, rfl, by decide +kernel, rfl⟩
theorem hF_X4_68 : a_fF RX4 68 3 28 (.array .int) := ⟨RX4, TX4, 37, tyX4, rfl, tin_X4, by decide, a_in 893 (by decide +kernel) rfl, tyX4_ok, nmX4, rfl, by decide +kernel, rfl⟩
theorem hF_X4_71 : a_fF RX4 71 3 33 (.array .int) := ⟨RX4, TX4, 37, tyX4, rfl, tin_X4, by decide, a_in 898 (by decide +kernel) rfl, tyX4_ok, nmX4, rfl, by decide +kernel, rfl⟩
theorem hF_X4_74 : a_fF RX4 74 3 34 (.array .int) := ⟨RX4, TX4, 37, tyX4, rfl, tin_X4, by decide, a_in 899 (by decide +kernel) rfl, tyX4_ok, nmX4, rfl, by decide +kernel, rfl⟩
theorem hF_X4_77 : a_fF RX4 77 3 36 (.array .long) := ⟨RX4, TX4, 37, tyX4, rfl, tin_X4, by decide, a_in 901 (by decide +kernel) rfl, tyX4_ok, nmX4, rfl, by decide +kernel, rfl⟩
theorem hP_X4_80 : a_fw RX4 80 3 19 (.int) := ⟨RX4, TX4, 37, tyX4, rfl, tin_X4, by decide, a_in 884 (by decide +kernel) rfl, tyX4_ok, nmX4, rfl, by decide +kernel⟩
theorem xo_X4 : Cond.methodLink RX4 1 objectInit ∈ a_T := a_in 864 (by decide +kernel) rfl
def zX4 : List Value := [.int 0, .null, .null, .null, .null, .null, .int 0, .null, .null, .null, .null, .int 0, .int 0, .null, .null, .null, .null, .null, .null, .int 0, .int 0, .int 0, .int 0, .int 0, .null, .null, .null, .null, .null, .int 0, .int 0, .int 0, .null, .null, .null, .int 0, .null]
def wsX4 (ca : Nat → Nat) (h0 : Nat) (q : Nat → Nat) (f5 f6 : Nat → Int32) : va_W := [(h0, .inr (3, [.int 0, .ref (q 0), .ref (q 1), .ref (q 2), .ref (q 3), .ref (q 4), .int 0, .ref (q 5), .ref (q 6), .ref (q 7), .ref (q 8), .int 0, .int 0, .ref (q 9), .ref (q 10), .ref (q 11), .ref (q 12), .ref (q 13), .ref (q 14), .int 0, .int 0, .int 0, .int 0, .int 0, .ref (q 15), .ref (q 16), .ref (q 17), .ref (q 18), .ref (q 19), .int 0, .int 0, .int 0, .null, .ref (q 20), .ref (q 21), .int 0, .ref (q 22)])), (q 0, .inl (ca 0, 9, .inl (fun _ => 0))), (q 1, .inl (ca 0, 9, .inl (fun _ => 0))), (q 2, .inl (ca 0, 9, .inl (fun _ => 0))), (q 3, .inl (ca 0, 9, .inl (fun _ => 0))), (q 4, .inl (ca 0, 9, .inl (fun _ => 0))), (q 5, .inl (ca 0, 5, .inl f5)), (q 6, .inl (ca 0, 5, .inl f6)), (q 7, .inl (ca 0, 5, .inl (fun _ => 0))), (q 8, .inl (ca 0, 5, .inl (fun _ => 0))), (q 9, .inl (ca 0, 8, .inl (fun _ => 0))), (q 10, .inl (ca 0, 8, .inl (fun _ => 0))), (q 11, .inl (ca 0, 8, .inl (fun _ => 0))), (q 12, .inl (ca 0, 8, .inl (fun _ => 0))), (q 13, .inl (ca 0, 8, .inl (fun _ => 0))), (q 14, .inl (ca 1, 800, .inr (.inl (fun _ => 0)))), (q 15, .inl (ca 0, 51, .inl (fun _ => 0))), (q 16, .inl (ca 0, 51, .inl (fun _ => 0))), (q 17, .inl (ca 0, 204, .inl (fun _ => 0))), (q 18, .inl (ca 0, 68, .inl (fun _ => 0))), (q 19, .inl (ca 0, 68, .inl (fun _ => 0))), (q 20, .inl (ca 0, 9, .inl (fun _ => 0))), (q 21, .inl (ca 0, 8, .inl (fun _ => 0))), (q 22, .inl (ca 1, 100, .inr (.inl (fun _ => 0))))]
theorem hg_X4_25 : a_fs RX4 25 3 7 := ⟨RX4, TX4, 37, rfl, tin_X4, by decide, a_in 872 (by decide +kernel) rfl⟩
theorem hg_X4_28 : a_fs RX4 28 3 8 := ⟨RX4, TX4, 37, rfl, tin_X4, by decide, a_in 873 (by decide +kernel) rfl⟩
theorem lp_X4_0 {K : gK} (hM : K.M = M_X4_init) (hK : K.Ok) {t u h0 : Nat} (q : Nat → Nat) (next : Hw K t u 221 [(1, .int (nI 5)), (0, .ref h0)] [] (wsX4 K.ca h0 q (fun j => if j < 5 then g40 j else 0) (fun j => if j < 5 then g3 j else 0))) : ∀ (n i : Nat), i + n = 5 → Hw K t u 193 [(1, .int (nI i)), (0, .ref h0)] [] (wsX4 K.ca h0 q (fun j => if j < i then g40 j else 0) (fun j => if j < i then g3 j else 0)) := by
  obtain ⟨M, K'⟩ := K
  have hM : M = M_X4_init := hM
  subst hM
  intro n
  induction n with
  | zero =>
    intro i hi
    obtain rfl : i = 5 := by omega
    refine h_iload (pc := 193) hK dX4_init_193 rfl List.mem_cons_self ?_
    refine h_iconst (pc := 194) hK dX4_init_194 (show _ = (5 : Int32) by decide) ?_
    exact h_geT (pc := 195) (tgt := 221) hK dX4_init_195 (by decide) (by decide) next
  | succ n ih =>
    intro i hi
    refine h_iload (pc := 193) hK dX4_init_193 rfl List.mem_cons_self ?_
    refine h_iconst (pc := 194) hK dX4_init_194 (show _ = (5 : Int32) by decide) ?_
    refine h_geF (pc := 195) (tgt := 221) hK dX4_init_195 (by decide) (show ¬ nI 5 ≤ nI i from nI_ge (by omega) (by decide)) ?_
    refine h_aload (pc := 198) hK dX4_init_198 rfl (List.mem_cons_of_mem _ List.mem_cons_self) ?_
    refine h_getR (pc := 199) (q0 := 0) (k := 7) (v := .ref (q 5)) hK dX4_init_199 hg_X4_25 rfl rfl ?_
    refine h_iload (pc := 202) hK dX4_init_202 rfl List.mem_cons_self ?_
    refine h_bipush (pc := 203) hK dX4_init_203 (show _ = (40 : Int32) by decide) ?_
    refine h_iast (pc := 205) (q0 := 6) (n := 5) hK dX4_init_205 rfl (vp_in_nI (by omega) (by decide)) ?_
    refine h_ws (ws' := wsX4 _ h0 q (upd (fun j => if j < i then g40 j else 0) (nI i).toNatClampNeg (g40 i)) (fun j => if j < i then g3 j else 0)) rfl ?_
    rw [nI_clamp (show i < 2 ^ 31 by omega), upd_if]
    refine h_aload (pc := 206) hK dX4_init_206 rfl (List.mem_cons_of_mem _ List.mem_cons_self) ?_
    refine h_getR (pc := 207) (q0 := 0) (k := 8) (v := .ref (q 6)) hK dX4_init_207 hg_X4_28 rfl rfl ?_
    refine h_iload (pc := 210) hK dX4_init_210 rfl List.mem_cons_self ?_
    refine h_iconst (pc := 211) hK dX4_init_211 (show _ = (3 : Int32) by decide) ?_
    refine h_iload (pc := 212) hK dX4_init_212 rfl List.mem_cons_self ?_
    refine h_imul (pc := 213) hK dX4_init_213 ?_
    refine h_iast (pc := 214) (q0 := 7) (n := 5) hK dX4_init_214 rfl (vp_in_nI (by omega) (by decide)) ?_
    refine h_ws (ws' := wsX4 _ h0 q (fun j => if j < (i + 1) then g40 j else 0) (upd (fun j => if j < i then g3 j else 0) (nI i).toNatClampNeg (g3 i))) rfl ?_
    rw [nI_clamp (show i < 2 ^ 31 by omega), upd_if]
    refine h_iinc1 (pc := 215) hK dX4_init_215 (show 1 < 2 by decide) (nI_1 i) ?_
    refine h_goto (pc := 218) (tgt := 193) hK dX4_init_218 (by decide) ?_
    exact ih (i + 1) (by omega)
def postX4 (ca : Nat → Nat) (h0 : Nat) (ws : va_W) : Prop := ∃ q : Nat → Nat, ws = wsX4 ca h0 q (fun j => if j < 5 then g40 j else 0) (fun j => if j < 5 then g3 j else 0)
set_option maxHeartbeats 4000000 in
theorem K_X4 : Kp M_X4_init 3 zX4 23 1464 postX4 := by
  refine k_entry (by decide +kernel) rfl (Nat.le_of_ble_eq_true rfl) (fun K h0 hM hK hE => ?_)
  obtain ⟨M, K'⟩ := K
  have hM : M = M_X4_init := hM
  subst hM
  have hR : gK.R (M_X4_init, K') = kR M_X4_init 23 1464 := hE.2.2.1
  refine h_aload (pc := 0) hK dX4_init_0 rfl List.mem_cons_self ?_
  refine h_objInit (pc := 1) hK xo_X4 xoI xoC dX4_init_1 (by rw [hR]; exact Nat.le_of_ble_eq_true rfl) (by rw [hR]; exact Nat.le_of_ble_eq_true rfl) ?_
  unfold zX4
  refine h_aload (pc := 4) hK dX4_init_4 rfl List.mem_cons_self ?_
  refine h_bipush (pc := 5) hK dX4_init_5 (show _ = (9 : Int32) by decide) ?_
  refine h_fld (pc := 7) (N := 9) hK hE.2.2.2.1 xarrI dX4_init_7 dX4_init_9 hF_X4_7 (by decide) (by decide) (by decide) (by rw [hR]; exact Nat.le_of_ble_eq_true rfl) (by rw [hR]; exact Nat.le_of_ble_eq_true rfl) (Nat.le_of_ble_eq_true rfl) (fun q0 => ?_)
  refine h_ws (ws' := [(h0, .inr (3, [.int 0, .ref q0, .null, .null, .null, .null, .int 0, .null, .null, .null, .null, .int 0, .int 0, .null, .null, .null, .null, .null, .null, .int 0, .int 0, .int 0, .int 0, .int 0, .null, .null, .null, .null, .null, .int 0, .int 0, .int 0, .null, .null, .null, .int 0, .null])), (q0, .inl (gK.ca (M_X4_init, K') 0, 9, .inl (fun _ => 0)))]) rfl ?_
  refine h_aload (pc := 12) hK dX4_init_12 rfl List.mem_cons_self ?_
  refine h_bipush (pc := 13) hK dX4_init_13 (show _ = (9 : Int32) by decide) ?_
  refine h_fld (pc := 15) (N := 9) hK hE.2.2.2.1 xarrI dX4_init_15 dX4_init_17 hF_X4_13 (by decide) (by decide) (by decide) (by rw [hR]; exact Nat.le_of_ble_eq_true rfl) (by rw [hR]; exact Nat.le_of_ble_eq_true rfl) (Nat.le_of_ble_eq_true rfl) (fun q1 => ?_)
  refine h_ws (ws' := [(h0, .inr (3, [.int 0, .ref q0, .ref q1, .null, .null, .null, .int 0, .null, .null, .null, .null, .int 0, .int 0, .null, .null, .null, .null, .null, .null, .int 0, .int 0, .int 0, .int 0, .int 0, .null, .null, .null, .null, .null, .int 0, .int 0, .int 0, .null, .null, .null, .int 0, .null])), (q0, .inl (gK.ca (M_X4_init, K') 0, 9, .inl (fun _ => 0))), (q1, .inl (gK.ca (M_X4_init, K') 0, 9, .inl (fun _ => 0)))]) rfl ?_
  refine h_aload (pc := 20) hK dX4_init_20 rfl List.mem_cons_self ?_
  refine h_bipush (pc := 21) hK dX4_init_21 (show _ = (9 : Int32) by decide) ?_
  refine h_fld (pc := 23) (N := 9) hK hE.2.2.2.1 xarrI dX4_init_23 dX4_init_25 hF_X4_16 (by decide) (by decide) (by decide) (by rw [hR]; exact Nat.le_of_ble_eq_true rfl) (by rw [hR]; exact Nat.le_of_ble_eq_true rfl) (Nat.le_of_ble_eq_true rfl) (fun q2 => ?_)
  refine h_ws (ws' := [(h0, .inr (3, [.int 0, .ref q0, .ref q1, .ref q2, .null, .null, .int 0, .null, .null, .null, .null, .int 0, .int 0, .null, .null, .null, .null, .null, .null, .int 0, .int 0, .int 0, .int 0, .int 0, .null, .null, .null, .null, .null, .int 0, .int 0, .int 0, .null, .null, .null, .int 0, .null])), (q0, .inl (gK.ca (M_X4_init, K') 0, 9, .inl (fun _ => 0))), (q1, .inl (gK.ca (M_X4_init, K') 0, 9, .inl (fun _ => 0))), (q2, .inl (gK.ca (M_X4_init, K') 0, 9, .inl (fun _ => 0)))]) rfl ?_
  refine h_aload (pc := 28) hK dX4_init_28 rfl List.mem_cons_self ?_
  refine h_bipush (pc := 29) hK dX4_init_29 (show _ = (9 : Int32) by decide) ?_
  refine h_fld (pc := 31) (N := 9) hK hE.2.2.2.1 xarrI dX4_init_31 dX4_init_33 hF_X4_19 (by decide) (by decide) (by decide) (by rw [hR]; exact Nat.le_of_ble_eq_true rfl) (by rw [hR]; exact Nat.le_of_ble_eq_true rfl) (Nat.le_of_ble_eq_true rfl) (fun q3 => ?_)
  refine h_ws (ws' := [(h0, .inr (3, [.int 0, .ref q0, .ref q1, .ref q2, .ref q3, .null, .int 0, .null, .null, .null, .null, .int 0, .int 0, .null, .null, .null, .null, .null, .null, .int 0, .int 0, .int 0, .int 0, .int 0, .null, .null, .null, .null, .null, .int 0, .int 0, .int 0, .null, .null, .null, .int 0, .null])), (q0, .inl (gK.ca (M_X4_init, K') 0, 9, .inl (fun _ => 0))), (q1, .inl (gK.ca (M_X4_init, K') 0, 9, .inl (fun _ => 0))), (q2, .inl (gK.ca (M_X4_init, K') 0, 9, .inl (fun _ => 0))), (q3, .inl (gK.ca (M_X4_init, K') 0, 9, .inl (fun _ => 0)))]) rfl ?_
  refine h_aload (pc := 36) hK dX4_init_36 rfl List.mem_cons_self ?_
  refine h_bipush (pc := 37) hK dX4_init_37 (show _ = (9 : Int32) by decide) ?_
  refine h_fld (pc := 39) (N := 9) hK hE.2.2.2.1 xarrI dX4_init_39 dX4_init_41 hF_X4_22 (by decide) (by decide) (by decide) (by rw [hR]; exact Nat.le_of_ble_eq_true rfl) (by rw [hR]; exact Nat.le_of_ble_eq_true rfl) (Nat.le_of_ble_eq_true rfl) (fun q4 => ?_)
  refine h_ws (ws' := [(h0, .inr (3, [.int 0, .ref q0, .ref q1, .ref q2, .ref q3, .ref q4, .int 0, .null, .null, .null, .null, .int 0, .int 0, .null, .null, .null, .null, .null, .null, .int 0, .int 0, .int 0, .int 0, .int 0, .null, .null, .null, .null, .null, .int 0, .int 0, .int 0, .null, .null, .null, .int 0, .null])), (q0, .inl (gK.ca (M_X4_init, K') 0, 9, .inl (fun _ => 0))), (q1, .inl (gK.ca (M_X4_init, K') 0, 9, .inl (fun _ => 0))), (q2, .inl (gK.ca (M_X4_init, K') 0, 9, .inl (fun _ => 0))), (q3, .inl (gK.ca (M_X4_init, K') 0, 9, .inl (fun _ => 0))), (q4, .inl (gK.ca (M_X4_init, K') 0, 9, .inl (fun _ => 0)))]) rfl ?_
  refine h_aload (pc := 44) hK dX4_init_44 rfl List.mem_cons_self ?_
  refine h_iconst (pc := 45) hK dX4_init_45 (show _ = (5 : Int32) by decide) ?_
  refine h_fld (pc := 46) (N := 5) hK hE.2.2.2.1 xarrI dX4_init_46 dX4_init_48 hF_X4_25 (by decide) (by decide) (by decide) (by rw [hR]; exact Nat.le_of_ble_eq_true rfl) (by rw [hR]; exact Nat.le_of_ble_eq_true rfl) (Nat.le_of_ble_eq_true rfl) (fun q5 => ?_)
  refine h_ws (ws' := [(h0, .inr (3, [.int 0, .ref q0, .ref q1, .ref q2, .ref q3, .ref q4, .int 0, .ref q5, .null, .null, .null, .int 0, .int 0, .null, .null, .null, .null, .null, .null, .int 0, .int 0, .int 0, .int 0, .int 0, .null, .null, .null, .null, .null, .int 0, .int 0, .int 0, .null, .null, .null, .int 0, .null])), (q0, .inl (gK.ca (M_X4_init, K') 0, 9, .inl (fun _ => 0))), (q1, .inl (gK.ca (M_X4_init, K') 0, 9, .inl (fun _ => 0))), (q2, .inl (gK.ca (M_X4_init, K') 0, 9, .inl (fun _ => 0))), (q3, .inl (gK.ca (M_X4_init, K') 0, 9, .inl (fun _ => 0))), (q4, .inl (gK.ca (M_X4_init, K') 0, 9, .inl (fun _ => 0))), (q5, .inl (gK.ca (M_X4_init, K') 0, 5, .inl (fun _ => 0)))]) rfl ?_
  refine h_aload (pc := 51) hK dX4_init_51 rfl List.mem_cons_self ?_
  refine h_iconst (pc := 52) hK dX4_init_52 (show _ = (5 : Int32) by decide) ?_
  refine h_fld (pc := 53) (N := 5) hK hE.2.2.2.1 xarrI dX4_init_53 dX4_init_55 hF_X4_28 (by decide) (by decide) (by decide) (by rw [hR]; exact Nat.le_of_ble_eq_true rfl) (by rw [hR]; exact Nat.le_of_ble_eq_true rfl) (Nat.le_of_ble_eq_true rfl) (fun q6 => ?_)
  refine h_ws (ws' := [(h0, .inr (3, [.int 0, .ref q0, .ref q1, .ref q2, .ref q3, .ref q4, .int 0, .ref q5, .ref q6, .null, .null, .int 0, .int 0, .null, .null, .null, .null, .null, .null, .int 0, .int 0, .int 0, .int 0, .int 0, .null, .null, .null, .null, .null, .int 0, .int 0, .int 0, .null, .null, .null, .int 0, .null])), (q0, .inl (gK.ca (M_X4_init, K') 0, 9, .inl (fun _ => 0))), (q1, .inl (gK.ca (M_X4_init, K') 0, 9, .inl (fun _ => 0))), (q2, .inl (gK.ca (M_X4_init, K') 0, 9, .inl (fun _ => 0))), (q3, .inl (gK.ca (M_X4_init, K') 0, 9, .inl (fun _ => 0))), (q4, .inl (gK.ca (M_X4_init, K') 0, 9, .inl (fun _ => 0))), (q5, .inl (gK.ca (M_X4_init, K') 0, 5, .inl (fun _ => 0))), (q6, .inl (gK.ca (M_X4_init, K') 0, 5, .inl (fun _ => 0)))]) rfl ?_
  refine h_aload (pc := 58) hK dX4_init_58 rfl List.mem_cons_self ?_
  refine h_iconst (pc := 59) hK dX4_init_59 (show _ = (5 : Int32) by decide) ?_
  refine h_fld (pc := 60) (N := 5) hK hE.2.2.2.1 xarrI dX4_init_60 dX4_init_62 hF_X4_31 (by decide) (by decide) (by decide) (by rw [hR]; exact Nat.le_of_ble_eq_true rfl) (by rw [hR]; exact Nat.le_of_ble_eq_true rfl) (Nat.le_of_ble_eq_true rfl) (fun q7 => ?_)
  refine h_ws (ws' := [(h0, .inr (3, [.int 0, .ref q0, .ref q1, .ref q2, .ref q3, .ref q4, .int 0, .ref q5, .ref q6, .ref q7, .null, .int 0, .int 0, .null, .null, .null, .null, .null, .null, .int 0, .int 0, .int 0, .int 0, .int 0, .null, .null, .null, .null, .null, .int 0, .int 0, .int 0, .null, .null, .null, .int 0, .null])), (q0, .inl (gK.ca (M_X4_init, K') 0, 9, .inl (fun _ => 0))), (q1, .inl (gK.ca (M_X4_init, K') 0, 9, .inl (fun _ => 0))), (q2, .inl (gK.ca (M_X4_init, K') 0, 9, .inl (fun _ => 0))), (q3, .inl (gK.ca (M_X4_init, K') 0, 9, .inl (fun _ => 0))), (q4, .inl (gK.ca (M_X4_init, K') 0, 9, .inl (fun _ => 0))), (q5, .inl (gK.ca (M_X4_init, K') 0, 5, .inl (fun _ => 0))), (q6, .inl (gK.ca (M_X4_init, K') 0, 5, .inl (fun _ => 0))), (q7, .inl (gK.ca (M_X4_init, K') 0, 5, .inl (fun _ => 0)))]) rfl ?_
  refine h_aload (pc := 65) hK dX4_init_65 rfl List.mem_cons_self ?_
  refine h_iconst (pc := 66) hK dX4_init_66 (show _ = (5 : Int32) by decide) ?_
  refine h_fld (pc := 67) (N := 5) hK hE.2.2.2.1 xarrI dX4_init_67 dX4_init_69 hF_X4_34 (by decide) (by decide) (by decide) (by rw [hR]; exact Nat.le_of_ble_eq_true rfl) (by rw [hR]; exact Nat.le_of_ble_eq_true rfl) (Nat.le_of_ble_eq_true rfl) (fun q8 => ?_)
  refine h_ws (ws' := [(h0, .inr (3, [.int 0, .ref q0, .ref q1, .ref q2, .ref q3, .ref q4, .int 0, .ref q5, .ref q6, .ref q7, .ref q8, .int 0, .int 0, .null, .null, .null, .null, .null, .null, .int 0, .int 0, .int 0, .int 0, .int 0, .null, .null, .null, .null, .null, .int 0, .int 0, .int 0, .null, .null, .null, .int 0, .null])), (q0, .inl (gK.ca (M_X4_init, K') 0, 9, .inl (fun _ => 0))), (q1, .inl (gK.ca (M_X4_init, K') 0, 9, .inl (fun _ => 0))), (q2, .inl (gK.ca (M_X4_init, K') 0, 9, .inl (fun _ => 0))), (q3, .inl (gK.ca (M_X4_init, K') 0, 9, .inl (fun _ => 0))), (q4, .inl (gK.ca (M_X4_init, K') 0, 9, .inl (fun _ => 0))), (q5, .inl (gK.ca (M_X4_init, K') 0, 5, .inl (fun _ => 0))), (q6, .inl (gK.ca (M_X4_init, K') 0, 5, .inl (fun _ => 0))), (q7, .inl (gK.ca (M_X4_init, K') 0, 5, .inl (fun _ => 0))), (q8, .inl (gK.ca (M_X4_init, K') 0, 5, .inl (fun _ => 0)))]) rfl ?_
  refine h_aload (pc := 72) hK dX4_init_72 rfl List.mem_cons_self ?_
  refine h_bipush (pc := 73) hK dX4_init_73 (show _ = (8 : Int32) by decide) ?_
  refine h_fld (pc := 75) (N := 8) hK hE.2.2.2.1 xarrI dX4_init_75 dX4_init_77 hF_X4_37 (by decide) (by decide) (by decide) (by rw [hR]; exact Nat.le_of_ble_eq_true rfl) (by rw [hR]; exact Nat.le_of_ble_eq_true rfl) (Nat.le_of_ble_eq_true rfl) (fun q9 => ?_)
  refine h_ws (ws' := [(h0, .inr (3, [.int 0, .ref q0, .ref q1, .ref q2, .ref q3, .ref q4, .int 0, .ref q5, .ref q6, .ref q7, .ref q8, .int 0, .int 0, .ref q9, .null, .null, .null, .null, .null, .int 0, .int 0, .int 0, .int 0, .int 0, .null, .null, .null, .null, .null, .int 0, .int 0, .int 0, .null, .null, .null, .int 0, .null])), (q0, .inl (gK.ca (M_X4_init, K') 0, 9, .inl (fun _ => 0))), (q1, .inl (gK.ca (M_X4_init, K') 0, 9, .inl (fun _ => 0))), (q2, .inl (gK.ca (M_X4_init, K') 0, 9, .inl (fun _ => 0))), (q3, .inl (gK.ca (M_X4_init, K') 0, 9, .inl (fun _ => 0))), (q4, .inl (gK.ca (M_X4_init, K') 0, 9, .inl (fun _ => 0))), (q5, .inl (gK.ca (M_X4_init, K') 0, 5, .inl (fun _ => 0))), (q6, .inl (gK.ca (M_X4_init, K') 0, 5, .inl (fun _ => 0))), (q7, .inl (gK.ca (M_X4_init, K') 0, 5, .inl (fun _ => 0))), (q8, .inl (gK.ca (M_X4_init, K') 0, 5, .inl (fun _ => 0))), (q9, .inl (gK.ca (M_X4_init, K') 0, 8, .inl (fun _ => 0)))]) rfl ?_
  refine h_aload (pc := 80) hK dX4_init_80 rfl List.mem_cons_self ?_
  refine h_bipush (pc := 81) hK dX4_init_81 (show _ = (8 : Int32) by decide) ?_
  refine h_fld (pc := 83) (N := 8) hK hE.2.2.2.1 xarrI dX4_init_83 dX4_init_85 hF_X4_40 (by decide) (by decide) (by decide) (by rw [hR]; exact Nat.le_of_ble_eq_true rfl) (by rw [hR]; exact Nat.le_of_ble_eq_true rfl) (Nat.le_of_ble_eq_true rfl) (fun q10 => ?_)
  refine h_ws (ws' := [(h0, .inr (3, [.int 0, .ref q0, .ref q1, .ref q2, .ref q3, .ref q4, .int 0, .ref q5, .ref q6, .ref q7, .ref q8, .int 0, .int 0, .ref q9, .ref q10, .null, .null, .null, .null, .int 0, .int 0, .int 0, .int 0, .int 0, .null, .null, .null, .null, .null, .int 0, .int 0, .int 0, .null, .null, .null, .int 0, .null])), (q0, .inl (gK.ca (M_X4_init, K') 0, 9, .inl (fun _ => 0))), (q1, .inl (gK.ca (M_X4_init, K') 0, 9, .inl (fun _ => 0))), (q2, .inl (gK.ca (M_X4_init, K') 0, 9, .inl (fun _ => 0))), (q3, .inl (gK.ca (M_X4_init, K') 0, 9, .inl (fun _ => 0))), (q4, .inl (gK.ca (M_X4_init, K') 0, 9, .inl (fun _ => 0))), (q5, .inl (gK.ca (M_X4_init, K') 0, 5, .inl (fun _ => 0))), (q6, .inl (gK.ca (M_X4_init, K') 0, 5, .inl (fun _ => 0))), (q7, .inl (gK.ca (M_X4_init, K') 0, 5, .inl (fun _ => 0))), (q8, .inl (gK.ca (M_X4_init, K') 0, 5, .inl (fun _ => 0))), (q9, .inl (gK.ca (M_X4_init, K') 0, 8, .inl (fun _ => 0))), (q10, .inl (gK.ca (M_X4_init, K') 0, 8, .inl (fun _ => 0)))]) rfl ?_
  refine h_aload (pc := 88) hK dX4_init_88 rfl List.mem_cons_self ?_
  refine h_bipush (pc := 89) hK dX4_init_89 (show _ = (8 : Int32) by decide) ?_
  refine h_fld (pc := 91) (N := 8) hK hE.2.2.2.1 xarrI dX4_init_91 dX4_init_93 hF_X4_43 (by decide) (by decide) (by decide) (by rw [hR]; exact Nat.le_of_ble_eq_true rfl) (by rw [hR]; exact Nat.le_of_ble_eq_true rfl) (Nat.le_of_ble_eq_true rfl) (fun q11 => ?_)
  refine h_ws (ws' := [(h0, .inr (3, [.int 0, .ref q0, .ref q1, .ref q2, .ref q3, .ref q4, .int 0, .ref q5, .ref q6, .ref q7, .ref q8, .int 0, .int 0, .ref q9, .ref q10, .ref q11, .null, .null, .null, .int 0, .int 0, .int 0, .int 0, .int 0, .null, .null, .null, .null, .null, .int 0, .int 0, .int 0, .null, .null, .null, .int 0, .null])), (q0, .inl (gK.ca (M_X4_init, K') 0, 9, .inl (fun _ => 0))), (q1, .inl (gK.ca (M_X4_init, K') 0, 9, .inl (fun _ => 0))), (q2, .inl (gK.ca (M_X4_init, K') 0, 9, .inl (fun _ => 0))), (q3, .inl (gK.ca (M_X4_init, K') 0, 9, .inl (fun _ => 0))), (q4, .inl (gK.ca (M_X4_init, K') 0, 9, .inl (fun _ => 0))), (q5, .inl (gK.ca (M_X4_init, K') 0, 5, .inl (fun _ => 0))), (q6, .inl (gK.ca (M_X4_init, K') 0, 5, .inl (fun _ => 0))), (q7, .inl (gK.ca (M_X4_init, K') 0, 5, .inl (fun _ => 0))), (q8, .inl (gK.ca (M_X4_init, K') 0, 5, .inl (fun _ => 0))), (q9, .inl (gK.ca (M_X4_init, K') 0, 8, .inl (fun _ => 0))), (q10, .inl (gK.ca (M_X4_init, K') 0, 8, .inl (fun _ => 0))), (q11, .inl (gK.ca (M_X4_init, K') 0, 8, .inl (fun _ => 0)))]) rfl ?_
  refine h_aload (pc := 96) hK dX4_init_96 rfl List.mem_cons_self ?_
  refine h_bipush (pc := 97) hK dX4_init_97 (show _ = (8 : Int32) by decide) ?_
  refine h_fld (pc := 99) (N := 8) hK hE.2.2.2.1 xarrI dX4_init_99 dX4_init_101 hF_X4_46 (by decide) (by decide) (by decide) (by rw [hR]; exact Nat.le_of_ble_eq_true rfl) (by rw [hR]; exact Nat.le_of_ble_eq_true rfl) (Nat.le_of_ble_eq_true rfl) (fun q12 => ?_)
  refine h_ws (ws' := [(h0, .inr (3, [.int 0, .ref q0, .ref q1, .ref q2, .ref q3, .ref q4, .int 0, .ref q5, .ref q6, .ref q7, .ref q8, .int 0, .int 0, .ref q9, .ref q10, .ref q11, .ref q12, .null, .null, .int 0, .int 0, .int 0, .int 0, .int 0, .null, .null, .null, .null, .null, .int 0, .int 0, .int 0, .null, .null, .null, .int 0, .null])), (q0, .inl (gK.ca (M_X4_init, K') 0, 9, .inl (fun _ => 0))), (q1, .inl (gK.ca (M_X4_init, K') 0, 9, .inl (fun _ => 0))), (q2, .inl (gK.ca (M_X4_init, K') 0, 9, .inl (fun _ => 0))), (q3, .inl (gK.ca (M_X4_init, K') 0, 9, .inl (fun _ => 0))), (q4, .inl (gK.ca (M_X4_init, K') 0, 9, .inl (fun _ => 0))), (q5, .inl (gK.ca (M_X4_init, K') 0, 5, .inl (fun _ => 0))), (q6, .inl (gK.ca (M_X4_init, K') 0, 5, .inl (fun _ => 0))), (q7, .inl (gK.ca (M_X4_init, K') 0, 5, .inl (fun _ => 0))), (q8, .inl (gK.ca (M_X4_init, K') 0, 5, .inl (fun _ => 0))), (q9, .inl (gK.ca (M_X4_init, K') 0, 8, .inl (fun _ => 0))), (q10, .inl (gK.ca (M_X4_init, K') 0, 8, .inl (fun _ => 0))), (q11, .inl (gK.ca (M_X4_init, K') 0, 8, .inl (fun _ => 0))), (q12, .inl (gK.ca (M_X4_init, K') 0, 8, .inl (fun _ => 0)))]) rfl ?_
  refine h_aload (pc := 104) hK dX4_init_104 rfl List.mem_cons_self ?_
  refine h_bipush (pc := 105) hK dX4_init_105 (show _ = (8 : Int32) by decide) ?_
  refine h_fld (pc := 107) (N := 8) hK hE.2.2.2.1 xarrI dX4_init_107 dX4_init_109 hF_X4_49 (by decide) (by decide) (by decide) (by rw [hR]; exact Nat.le_of_ble_eq_true rfl) (by rw [hR]; exact Nat.le_of_ble_eq_true rfl) (Nat.le_of_ble_eq_true rfl) (fun q13 => ?_)
  refine h_ws (ws' := [(h0, .inr (3, [.int 0, .ref q0, .ref q1, .ref q2, .ref q3, .ref q4, .int 0, .ref q5, .ref q6, .ref q7, .ref q8, .int 0, .int 0, .ref q9, .ref q10, .ref q11, .ref q12, .ref q13, .null, .int 0, .int 0, .int 0, .int 0, .int 0, .null, .null, .null, .null, .null, .int 0, .int 0, .int 0, .null, .null, .null, .int 0, .null])), (q0, .inl (gK.ca (M_X4_init, K') 0, 9, .inl (fun _ => 0))), (q1, .inl (gK.ca (M_X4_init, K') 0, 9, .inl (fun _ => 0))), (q2, .inl (gK.ca (M_X4_init, K') 0, 9, .inl (fun _ => 0))), (q3, .inl (gK.ca (M_X4_init, K') 0, 9, .inl (fun _ => 0))), (q4, .inl (gK.ca (M_X4_init, K') 0, 9, .inl (fun _ => 0))), (q5, .inl (gK.ca (M_X4_init, K') 0, 5, .inl (fun _ => 0))), (q6, .inl (gK.ca (M_X4_init, K') 0, 5, .inl (fun _ => 0))), (q7, .inl (gK.ca (M_X4_init, K') 0, 5, .inl (fun _ => 0))), (q8, .inl (gK.ca (M_X4_init, K') 0, 5, .inl (fun _ => 0))), (q9, .inl (gK.ca (M_X4_init, K') 0, 8, .inl (fun _ => 0))), (q10, .inl (gK.ca (M_X4_init, K') 0, 8, .inl (fun _ => 0))), (q11, .inl (gK.ca (M_X4_init, K') 0, 8, .inl (fun _ => 0))), (q12, .inl (gK.ca (M_X4_init, K') 0, 8, .inl (fun _ => 0))), (q13, .inl (gK.ca (M_X4_init, K') 0, 8, .inl (fun _ => 0)))]) rfl ?_
  refine h_aload (pc := 112) hK dX4_init_112 rfl List.mem_cons_self ?_
  refine h_sipush (pc := 113) hK dX4_init_113 (show _ = (800 : Int32) by decide) ?_
  refine h_fldL (pc := 116) (N := 800) hK hE.2.2.2.1 xarrL dX4_init_116 dX4_init_118 hF_X4_52 (by decide) (by decide) (by decide) (by rw [hR]; exact Nat.le_of_ble_eq_true rfl) (by rw [hR]; exact Nat.le_of_ble_eq_true rfl) (Nat.le_of_ble_eq_true rfl) (fun q14 => ?_)
  refine h_ws (ws' := [(h0, .inr (3, [.int 0, .ref q0, .ref q1, .ref q2, .ref q3, .ref q4, .int 0, .ref q5, .ref q6, .ref q7, .ref q8, .int 0, .int 0, .ref q9, .ref q10, .ref q11, .ref q12, .ref q13, .ref q14, .int 0, .int 0, .int 0, .int 0, .int 0, .null, .null, .null, .null, .null, .int 0, .int 0, .int 0, .null, .null, .null, .int 0, .null])), (q0, .inl (gK.ca (M_X4_init, K') 0, 9, .inl (fun _ => 0))), (q1, .inl (gK.ca (M_X4_init, K') 0, 9, .inl (fun _ => 0))), (q2, .inl (gK.ca (M_X4_init, K') 0, 9, .inl (fun _ => 0))), (q3, .inl (gK.ca (M_X4_init, K') 0, 9, .inl (fun _ => 0))), (q4, .inl (gK.ca (M_X4_init, K') 0, 9, .inl (fun _ => 0))), (q5, .inl (gK.ca (M_X4_init, K') 0, 5, .inl (fun _ => 0))), (q6, .inl (gK.ca (M_X4_init, K') 0, 5, .inl (fun _ => 0))), (q7, .inl (gK.ca (M_X4_init, K') 0, 5, .inl (fun _ => 0))), (q8, .inl (gK.ca (M_X4_init, K') 0, 5, .inl (fun _ => 0))), (q9, .inl (gK.ca (M_X4_init, K') 0, 8, .inl (fun _ => 0))), (q10, .inl (gK.ca (M_X4_init, K') 0, 8, .inl (fun _ => 0))), (q11, .inl (gK.ca (M_X4_init, K') 0, 8, .inl (fun _ => 0))), (q12, .inl (gK.ca (M_X4_init, K') 0, 8, .inl (fun _ => 0))), (q13, .inl (gK.ca (M_X4_init, K') 0, 8, .inl (fun _ => 0))), (q14, .inl (gK.ca (M_X4_init, K') 1, 800, .inr (.inl (fun _ => 0))))]) rfl ?_
  refine h_aload (pc := 121) hK dX4_init_121 rfl List.mem_cons_self ?_
  refine h_bipush (pc := 122) hK dX4_init_122 (show _ = (51 : Int32) by decide) ?_
  refine h_fld (pc := 124) (N := 51) hK hE.2.2.2.1 xarrI dX4_init_124 dX4_init_126 hF_X4_56 (by decide) (by decide) (by decide) (by rw [hR]; exact Nat.le_of_ble_eq_true rfl) (by rw [hR]; exact Nat.le_of_ble_eq_true rfl) (Nat.le_of_ble_eq_true rfl) (fun q15 => ?_)
  refine h_ws (ws' := [(h0, .inr (3, [.int 0, .ref q0, .ref q1, .ref q2, .ref q3, .ref q4, .int 0, .ref q5, .ref q6, .ref q7, .ref q8, .int 0, .int 0, .ref q9, .ref q10, .ref q11, .ref q12, .ref q13, .ref q14, .int 0, .int 0, .int 0, .int 0, .int 0, .ref q15, .null, .null, .null, .null, .int 0, .int 0, .int 0, .null, .null, .null, .int 0, .null])), (q0, .inl (gK.ca (M_X4_init, K') 0, 9, .inl (fun _ => 0))), (q1, .inl (gK.ca (M_X4_init, K') 0, 9, .inl (fun _ => 0))), (q2, .inl (gK.ca (M_X4_init, K') 0, 9, .inl (fun _ => 0))), (q3, .inl (gK.ca (M_X4_init, K') 0, 9, .inl (fun _ => 0))), (q4, .inl (gK.ca (M_X4_init, K') 0, 9, .inl (fun _ => 0))), (q5, .inl (gK.ca (M_X4_init, K') 0, 5, .inl (fun _ => 0))), (q6, .inl (gK.ca (M_X4_init, K') 0, 5, .inl (fun _ => 0))), (q7, .inl (gK.ca (M_X4_init, K') 0, 5, .inl (fun _ => 0))), (q8, .inl (gK.ca (M_X4_init, K') 0, 5, .inl (fun _ => 0))), (q9, .inl (gK.ca (M_X4_init, K') 0, 8, .inl (fun _ => 0))), (q10, .inl (gK.ca (M_X4_init, K') 0, 8, .inl (fun _ => 0))), (q11, .inl (gK.ca (M_X4_init, K') 0, 8, .inl (fun _ => 0))), (q12, .inl (gK.ca (M_X4_init, K') 0, 8, .inl (fun _ => 0))), (q13, .inl (gK.ca (M_X4_init, K') 0, 8, .inl (fun _ => 0))), (q14, .inl (gK.ca (M_X4_init, K') 1, 800, .inr (.inl (fun _ => 0)))), (q15, .inl (gK.ca (M_X4_init, K') 0, 51, .inl (fun _ => 0)))]) rfl ?_
  refine h_aload (pc := 129) hK dX4_init_129 rfl List.mem_cons_self ?_
  refine h_bipush (pc := 130) hK dX4_init_130 (show _ = (51 : Int32) by decide) ?_
  refine h_fld (pc := 132) (N := 51) hK hE.2.2.2.1 xarrI dX4_init_132 dX4_init_134 hF_X4_59 (by decide) (by decide) (by decide) (by rw [hR]; exact Nat.le_of_ble_eq_true rfl) (by rw [hR]; exact Nat.le_of_ble_eq_true rfl) (Nat.le_of_ble_eq_true rfl) (fun q16 => ?_)
  refine h_ws (ws' := [(h0, .inr (3, [.int 0, .ref q0, .ref q1, .ref q2, .ref q3, .ref q4, .int 0, .ref q5, .ref q6, .ref q7, .ref q8, .int 0, .int 0, .ref q9, .ref q10, .ref q11, .ref q12, .ref q13, .ref q14, .int 0, .int 0, .int 0, .int 0, .int 0, .ref q15, .ref q16, .null, .null, .null, .int 0, .int 0, .int 0, .null, .null, .null, .int 0, .null])), (q0, .inl (gK.ca (M_X4_init, K') 0, 9, .inl (fun _ => 0))), (q1, .inl (gK.ca (M_X4_init, K') 0, 9, .inl (fun _ => 0))), (q2, .inl (gK.ca (M_X4_init, K') 0, 9, .inl (fun _ => 0))), (q3, .inl (gK.ca (M_X4_init, K') 0, 9, .inl (fun _ => 0))), (q4, .inl (gK.ca (M_X4_init, K') 0, 9, .inl (fun _ => 0))), (q5, .inl (gK.ca (M_X4_init, K') 0, 5, .inl (fun _ => 0))), (q6, .inl (gK.ca (M_X4_init, K') 0, 5, .inl (fun _ => 0))), (q7, .inl (gK.ca (M_X4_init, K') 0, 5, .inl (fun _ => 0))), (q8, .inl (gK.ca (M_X4_init, K') 0, 5, .inl (fun _ => 0))), (q9, .inl (gK.ca (M_X4_init, K') 0, 8, .inl (fun _ => 0))), (q10, .inl (gK.ca (M_X4_init, K') 0, 8, .inl (fun _ => 0))), (q11, .inl (gK.ca (M_X4_init, K') 0, 8, .inl (fun _ => 0))), (q12, .inl (gK.ca (M_X4_init, K') 0, 8, .inl (fun _ => 0))), (q13, .inl (gK.ca (M_X4_init, K') 0, 8, .inl (fun _ => 0))), (q14, .inl (gK.ca (M_X4_init, K') 1, 800, .inr (.inl (fun _ => 0)))), (q15, .inl (gK.ca (M_X4_init, K') 0, 51, .inl (fun _ => 0))), (q16, .inl (gK.ca (M_X4_init, K') 0, 51, .inl (fun _ => 0)))]) rfl ?_
  refine h_aload (pc := 137) hK dX4_init_137 rfl List.mem_cons_self ?_
  refine h_sipush (pc := 138) hK dX4_init_138 (show _ = (204 : Int32) by decide) ?_
  refine h_fld (pc := 141) (N := 204) hK hE.2.2.2.1 xarrI dX4_init_141 dX4_init_143 hF_X4_62 (by decide) (by decide) (by decide) (by rw [hR]; exact Nat.le_of_ble_eq_true rfl) (by rw [hR]; exact Nat.le_of_ble_eq_true rfl) (Nat.le_of_ble_eq_true rfl) (fun q17 => ?_)
  refine h_ws (ws' := [(h0, .inr (3, [.int 0, .ref q0, .ref q1, .ref q2, .ref q3, .ref q4, .int 0, .ref q5, .ref q6, .ref q7, .ref q8, .int 0, .int 0, .ref q9, .ref q10, .ref q11, .ref q12, .ref q13, .ref q14, .int 0, .int 0, .int 0, .int 0, .int 0, .ref q15, .ref q16, .ref q17, .null, .null, .int 0, .int 0, .int 0, .null, .null, .null, .int 0, .null])), (q0, .inl (gK.ca (M_X4_init, K') 0, 9, .inl (fun _ => 0))), (q1, .inl (gK.ca (M_X4_init, K') 0, 9, .inl (fun _ => 0))), (q2, .inl (gK.ca (M_X4_init, K') 0, 9, .inl (fun _ => 0))), (q3, .inl (gK.ca (M_X4_init, K') 0, 9, .inl (fun _ => 0))), (q4, .inl (gK.ca (M_X4_init, K') 0, 9, .inl (fun _ => 0))), (q5, .inl (gK.ca (M_X4_init, K') 0, 5, .inl (fun _ => 0))), (q6, .inl (gK.ca (M_X4_init, K') 0, 5, .inl (fun _ => 0))), (q7, .inl (gK.ca (M_X4_init, K') 0, 5, .inl (fun _ => 0))), (q8, .inl (gK.ca (M_X4_init, K') 0, 5, .inl (fun _ => 0))), (q9, .inl (gK.ca (M_X4_init, K') 0, 8, .inl (fun _ => 0))), (q10, .inl (gK.ca (M_X4_init, K') 0, 8, .inl (fun _ => 0))), (q11, .inl (gK.ca (M_X4_init, K') 0, 8, .inl (fun _ => 0))), (q12, .inl (gK.ca (M_X4_init, K') 0, 8, .inl (fun _ => 0))), (q13, .inl (gK.ca (M_X4_init, K') 0, 8, .inl (fun _ => 0))), (q14, .inl (gK.ca (M_X4_init, K') 1, 800, .inr (.inl (fun _ => 0)))), (q15, .inl (gK.ca (M_X4_init, K') 0, 51, .inl (fun _ => 0))), (q16, .inl (gK.ca (M_X4_init, K') 0, 51, .inl (fun _ => 0))), (q17, .inl (gK.ca (M_X4_init, K') 0, 204, .inl (fun _ => 0)))]) rfl ?_
  refine h_aload (pc := 146) hK dX4_init_146 rfl List.mem_cons_self ?_
  refine h_bipush (pc := 147) hK dX4_init_147 (show _ = (68 : Int32) by decide) ?_
  refine h_fld (pc := 149) (N := 68) hK hE.2.2.2.1 xarrI dX4_init_149 dX4_init_151 hF_X4_65 (by decide) (by decide) (by decide) (by rw [hR]; exact Nat.le_of_ble_eq_true rfl) (by rw [hR]; exact Nat.le_of_ble_eq_true rfl) (Nat.le_of_ble_eq_true rfl) (fun q18 => ?_)
  refine h_ws (ws' := [(h0, .inr (3, [.int 0, .ref q0, .ref q1, .ref q2, .ref q3, .ref q4, .int 0, .ref q5, .ref q6, .ref q7, .ref q8, .int 0, .int 0, .ref q9, .ref q10, .ref q11, .ref q12, .ref q13, .ref q14, .int 0, .int 0, .int 0, .int 0, .int 0, .ref q15, .ref q16, .ref q17, .ref q18, .null, .int 0, .int 0, .int 0, .null, .null, .null, .int 0, .null])), (q0, .inl (gK.ca (M_X4_init, K') 0, 9, .inl (fun _ => 0))), (q1, .inl (gK.ca (M_X4_init, K') 0, 9, .inl (fun _ => 0))), (q2, .inl (gK.ca (M_X4_init, K') 0, 9, .inl (fun _ => 0))), (q3, .inl (gK.ca (M_X4_init, K') 0, 9, .inl (fun _ => 0))), (q4, .inl (gK.ca (M_X4_init, K') 0, 9, .inl (fun _ => 0))), (q5, .inl (gK.ca (M_X4_init, K') 0, 5, .inl (fun _ => 0))), (q6, .inl (gK.ca (M_X4_init, K') 0, 5, .inl (fun _ => 0))), (q7, .inl (gK.ca (M_X4_init, K') 0, 5, .inl (fun _ => 0))), (q8, .inl (gK.ca (M_X4_init, K') 0, 5, .inl (fun _ => 0))), (q9, .inl (gK.ca (M_X4_init, K') 0, 8, .inl (fun _ => 0))), (q10, .inl (gK.ca (M_X4_init, K') 0, 8, .inl (fun _ => 0))), (q11, .inl (gK.ca (M_X4_init, K') 0, 8, .inl (fun _ => 0))), (q12, .inl (gK.ca (M_X4_init, K') 0, 8, .inl (fun _ => 0))), (q13, .inl (gK.ca (M_X4_init, K') 0, 8, .inl (fun _ => 0))), (q14, .inl (gK.ca (M_X4_init, K') 1, 800, .inr (.inl (fun _ => 0)))), (q15, .inl (gK.ca (M_X4_init, K') 0, 51, .inl (fun _ => 0))), (q16, .inl (gK.ca (M_X4_init, K') 0, 51, .inl (fun _ => 0))), (q17, .inl (gK.ca (M_X4_init, K') 0, 204, .inl (fun _ => 0))), (q18, .inl (gK.ca (M_X4_init, K') 0, 68, .inl (fun _ => 0)))]) rfl ?_
  refine h_aload (pc := 154) hK dX4_init_154 rfl List.mem_cons_self ?_
  refine h_bipush (pc := 155) hK dX4_init_155 (show _ = (68 : Int32) by decide) ?_
  refine h_fld (pc := 157) (N := 68) hK hE.2.2.2.1 xarrI dX4_init_157 dX4_init_159 hF_X4_68 (by decide) (by decide) (by decide) (by rw [hR]; exact Nat.le_of_ble_eq_true rfl) (by rw [hR]; exact Nat.le_of_ble_eq_true rfl) (Nat.le_of_ble_eq_true rfl) (fun q19 => ?_)
  refine h_ws (ws' := [(h0, .inr (3, [.int 0, .ref q0, .ref q1, .ref q2, .ref q3, .ref q4, .int 0, .ref q5, .ref q6, .ref q7, .ref q8, .int 0, .int 0, .ref q9, .ref q10, .ref q11, .ref q12, .ref q13, .ref q14, .int 0, .int 0, .int 0, .int 0, .int 0, .ref q15, .ref q16, .ref q17, .ref q18, .ref q19, .int 0, .int 0, .int 0, .null, .null, .null, .int 0, .null])), (q0, .inl (gK.ca (M_X4_init, K') 0, 9, .inl (fun _ => 0))), (q1, .inl (gK.ca (M_X4_init, K') 0, 9, .inl (fun _ => 0))), (q2, .inl (gK.ca (M_X4_init, K') 0, 9, .inl (fun _ => 0))), (q3, .inl (gK.ca (M_X4_init, K') 0, 9, .inl (fun _ => 0))), (q4, .inl (gK.ca (M_X4_init, K') 0, 9, .inl (fun _ => 0))), (q5, .inl (gK.ca (M_X4_init, K') 0, 5, .inl (fun _ => 0))), (q6, .inl (gK.ca (M_X4_init, K') 0, 5, .inl (fun _ => 0))), (q7, .inl (gK.ca (M_X4_init, K') 0, 5, .inl (fun _ => 0))), (q8, .inl (gK.ca (M_X4_init, K') 0, 5, .inl (fun _ => 0))), (q9, .inl (gK.ca (M_X4_init, K') 0, 8, .inl (fun _ => 0))), (q10, .inl (gK.ca (M_X4_init, K') 0, 8, .inl (fun _ => 0))), (q11, .inl (gK.ca (M_X4_init, K') 0, 8, .inl (fun _ => 0))), (q12, .inl (gK.ca (M_X4_init, K') 0, 8, .inl (fun _ => 0))), (q13, .inl (gK.ca (M_X4_init, K') 0, 8, .inl (fun _ => 0))), (q14, .inl (gK.ca (M_X4_init, K') 1, 800, .inr (.inl (fun _ => 0)))), (q15, .inl (gK.ca (M_X4_init, K') 0, 51, .inl (fun _ => 0))), (q16, .inl (gK.ca (M_X4_init, K') 0, 51, .inl (fun _ => 0))), (q17, .inl (gK.ca (M_X4_init, K') 0, 204, .inl (fun _ => 0))), (q18, .inl (gK.ca (M_X4_init, K') 0, 68, .inl (fun _ => 0))), (q19, .inl (gK.ca (M_X4_init, K') 0, 68, .inl (fun _ => 0)))]) rfl ?_
  refine h_aload (pc := 162) hK dX4_init_162 rfl List.mem_cons_self ?_
  refine h_bipush (pc := 163) hK dX4_init_163 (show _ = (9 : Int32) by decide) ?_
  refine h_fld (pc := 165) (N := 9) hK hE.2.2.2.1 xarrI dX4_init_165 dX4_init_167 hF_X4_71 (by decide) (by decide) (by decide) (by rw [hR]; exact Nat.le_of_ble_eq_true rfl) (by rw [hR]; exact Nat.le_of_ble_eq_true rfl) (Nat.le_of_ble_eq_true rfl) (fun q20 => ?_)
  refine h_ws (ws' := [(h0, .inr (3, [.int 0, .ref q0, .ref q1, .ref q2, .ref q3, .ref q4, .int 0, .ref q5, .ref q6, .ref q7, .ref q8, .int 0, .int 0, .ref q9, .ref q10, .ref q11, .ref q12, .ref q13, .ref q14, .int 0, .int 0, .int 0, .int 0, .int 0, .ref q15, .ref q16, .ref q17, .ref q18, .ref q19, .int 0, .int 0, .int 0, .null, .ref q20, .null, .int 0, .null])), (q0, .inl (gK.ca (M_X4_init, K') 0, 9, .inl (fun _ => 0))), (q1, .inl (gK.ca (M_X4_init, K') 0, 9, .inl (fun _ => 0))), (q2, .inl (gK.ca (M_X4_init, K') 0, 9, .inl (fun _ => 0))), (q3, .inl (gK.ca (M_X4_init, K') 0, 9, .inl (fun _ => 0))), (q4, .inl (gK.ca (M_X4_init, K') 0, 9, .inl (fun _ => 0))), (q5, .inl (gK.ca (M_X4_init, K') 0, 5, .inl (fun _ => 0))), (q6, .inl (gK.ca (M_X4_init, K') 0, 5, .inl (fun _ => 0))), (q7, .inl (gK.ca (M_X4_init, K') 0, 5, .inl (fun _ => 0))), (q8, .inl (gK.ca (M_X4_init, K') 0, 5, .inl (fun _ => 0))), (q9, .inl (gK.ca (M_X4_init, K') 0, 8, .inl (fun _ => 0))), (q10, .inl (gK.ca (M_X4_init, K') 0, 8, .inl (fun _ => 0))), (q11, .inl (gK.ca (M_X4_init, K') 0, 8, .inl (fun _ => 0))), (q12, .inl (gK.ca (M_X4_init, K') 0, 8, .inl (fun _ => 0))), (q13, .inl (gK.ca (M_X4_init, K') 0, 8, .inl (fun _ => 0))), (q14, .inl (gK.ca (M_X4_init, K') 1, 800, .inr (.inl (fun _ => 0)))), (q15, .inl (gK.ca (M_X4_init, K') 0, 51, .inl (fun _ => 0))), (q16, .inl (gK.ca (M_X4_init, K') 0, 51, .inl (fun _ => 0))), (q17, .inl (gK.ca (M_X4_init, K') 0, 204, .inl (fun _ => 0))), (q18, .inl (gK.ca (M_X4_init, K') 0, 68, .inl (fun _ => 0))), (q19, .inl (gK.ca (M_X4_init, K') 0, 68, .inl (fun _ => 0))), (q20, .inl (gK.ca (M_X4_init, K') 0, 9, .inl (fun _ => 0)))]) rfl ?_
  refine h_aload (pc := 170) hK dX4_init_170 rfl List.mem_cons_self ?_
  refine h_bipush (pc := 171) hK dX4_init_171 (show _ = (8 : Int32) by decide) ?_
  refine h_fld (pc := 173) (N := 8) hK hE.2.2.2.1 xarrI dX4_init_173 dX4_init_175 hF_X4_74 (by decide) (by decide) (by decide) (by rw [hR]; exact Nat.le_of_ble_eq_true rfl) (by rw [hR]; exact Nat.le_of_ble_eq_true rfl) (Nat.le_of_ble_eq_true rfl) (fun q21 => ?_)
  refine h_ws (ws' := [(h0, .inr (3, [.int 0, .ref q0, .ref q1, .ref q2, .ref q3, .ref q4, .int 0, .ref q5, .ref q6, .ref q7, .ref q8, .int 0, .int 0, .ref q9, .ref q10, .ref q11, .ref q12, .ref q13, .ref q14, .int 0, .int 0, .int 0, .int 0, .int 0, .ref q15, .ref q16, .ref q17, .ref q18, .ref q19, .int 0, .int 0, .int 0, .null, .ref q20, .ref q21, .int 0, .null])), (q0, .inl (gK.ca (M_X4_init, K') 0, 9, .inl (fun _ => 0))), (q1, .inl (gK.ca (M_X4_init, K') 0, 9, .inl (fun _ => 0))), (q2, .inl (gK.ca (M_X4_init, K') 0, 9, .inl (fun _ => 0))), (q3, .inl (gK.ca (M_X4_init, K') 0, 9, .inl (fun _ => 0))), (q4, .inl (gK.ca (M_X4_init, K') 0, 9, .inl (fun _ => 0))), (q5, .inl (gK.ca (M_X4_init, K') 0, 5, .inl (fun _ => 0))), (q6, .inl (gK.ca (M_X4_init, K') 0, 5, .inl (fun _ => 0))), (q7, .inl (gK.ca (M_X4_init, K') 0, 5, .inl (fun _ => 0))), (q8, .inl (gK.ca (M_X4_init, K') 0, 5, .inl (fun _ => 0))), (q9, .inl (gK.ca (M_X4_init, K') 0, 8, .inl (fun _ => 0))), (q10, .inl (gK.ca (M_X4_init, K') 0, 8, .inl (fun _ => 0))), (q11, .inl (gK.ca (M_X4_init, K') 0, 8, .inl (fun _ => 0))), (q12, .inl (gK.ca (M_X4_init, K') 0, 8, .inl (fun _ => 0))), (q13, .inl (gK.ca (M_X4_init, K') 0, 8, .inl (fun _ => 0))), (q14, .inl (gK.ca (M_X4_init, K') 1, 800, .inr (.inl (fun _ => 0)))), (q15, .inl (gK.ca (M_X4_init, K') 0, 51, .inl (fun _ => 0))), (q16, .inl (gK.ca (M_X4_init, K') 0, 51, .inl (fun _ => 0))), (q17, .inl (gK.ca (M_X4_init, K') 0, 204, .inl (fun _ => 0))), (q18, .inl (gK.ca (M_X4_init, K') 0, 68, .inl (fun _ => 0))), (q19, .inl (gK.ca (M_X4_init, K') 0, 68, .inl (fun _ => 0))), (q20, .inl (gK.ca (M_X4_init, K') 0, 9, .inl (fun _ => 0))), (q21, .inl (gK.ca (M_X4_init, K') 0, 8, .inl (fun _ => 0)))]) rfl ?_
  refine h_aload (pc := 178) hK dX4_init_178 rfl List.mem_cons_self ?_
  refine h_bipush (pc := 179) hK dX4_init_179 (show _ = (100 : Int32) by decide) ?_
  refine h_fldL (pc := 181) (N := 100) hK hE.2.2.2.1 xarrL dX4_init_181 dX4_init_183 hF_X4_77 (by decide) (by decide) (by decide) (by rw [hR]; exact Nat.le_of_ble_eq_true rfl) (by rw [hR]; exact Nat.le_of_ble_eq_true rfl) (Nat.le_of_ble_eq_true rfl) (fun q22 => ?_)
  refine h_ws (ws' := [(h0, .inr (3, [.int 0, .ref q0, .ref q1, .ref q2, .ref q3, .ref q4, .int 0, .ref q5, .ref q6, .ref q7, .ref q8, .int 0, .int 0, .ref q9, .ref q10, .ref q11, .ref q12, .ref q13, .ref q14, .int 0, .int 0, .int 0, .int 0, .int 0, .ref q15, .ref q16, .ref q17, .ref q18, .ref q19, .int 0, .int 0, .int 0, .null, .ref q20, .ref q21, .int 0, .ref q22])), (q0, .inl (gK.ca (M_X4_init, K') 0, 9, .inl (fun _ => 0))), (q1, .inl (gK.ca (M_X4_init, K') 0, 9, .inl (fun _ => 0))), (q2, .inl (gK.ca (M_X4_init, K') 0, 9, .inl (fun _ => 0))), (q3, .inl (gK.ca (M_X4_init, K') 0, 9, .inl (fun _ => 0))), (q4, .inl (gK.ca (M_X4_init, K') 0, 9, .inl (fun _ => 0))), (q5, .inl (gK.ca (M_X4_init, K') 0, 5, .inl (fun _ => 0))), (q6, .inl (gK.ca (M_X4_init, K') 0, 5, .inl (fun _ => 0))), (q7, .inl (gK.ca (M_X4_init, K') 0, 5, .inl (fun _ => 0))), (q8, .inl (gK.ca (M_X4_init, K') 0, 5, .inl (fun _ => 0))), (q9, .inl (gK.ca (M_X4_init, K') 0, 8, .inl (fun _ => 0))), (q10, .inl (gK.ca (M_X4_init, K') 0, 8, .inl (fun _ => 0))), (q11, .inl (gK.ca (M_X4_init, K') 0, 8, .inl (fun _ => 0))), (q12, .inl (gK.ca (M_X4_init, K') 0, 8, .inl (fun _ => 0))), (q13, .inl (gK.ca (M_X4_init, K') 0, 8, .inl (fun _ => 0))), (q14, .inl (gK.ca (M_X4_init, K') 1, 800, .inr (.inl (fun _ => 0)))), (q15, .inl (gK.ca (M_X4_init, K') 0, 51, .inl (fun _ => 0))), (q16, .inl (gK.ca (M_X4_init, K') 0, 51, .inl (fun _ => 0))), (q17, .inl (gK.ca (M_X4_init, K') 0, 204, .inl (fun _ => 0))), (q18, .inl (gK.ca (M_X4_init, K') 0, 68, .inl (fun _ => 0))), (q19, .inl (gK.ca (M_X4_init, K') 0, 68, .inl (fun _ => 0))), (q20, .inl (gK.ca (M_X4_init, K') 0, 9, .inl (fun _ => 0))), (q21, .inl (gK.ca (M_X4_init, K') 0, 8, .inl (fun _ => 0))), (q22, .inl (gK.ca (M_X4_init, K') 1, 100, .inr (.inl (fun _ => 0))))]) rfl ?_
  refine h_aload (pc := 186) hK dX4_init_186 rfl List.mem_cons_self ?_
  refine h_iconst (pc := 187) hK dX4_init_187 (show _ = (0 : Int32) by decide) ?_
  refine h_put (pc := 188) (q0 := 0) hK dX4_init_188 hP_X4_80 rfl rfl rfl (Nat.le_of_ble_eq_true rfl) ?_
  refine h_ws (ws' := [(h0, .inr (3, [.int 0, .ref q0, .ref q1, .ref q2, .ref q3, .ref q4, .int 0, .ref q5, .ref q6, .ref q7, .ref q8, .int 0, .int 0, .ref q9, .ref q10, .ref q11, .ref q12, .ref q13, .ref q14, .int 0, .int 0, .int 0, .int 0, .int 0, .ref q15, .ref q16, .ref q17, .ref q18, .ref q19, .int 0, .int 0, .int 0, .null, .ref q20, .ref q21, .int 0, .ref q22])), (q0, .inl (gK.ca (M_X4_init, K') 0, 9, .inl (fun _ => 0))), (q1, .inl (gK.ca (M_X4_init, K') 0, 9, .inl (fun _ => 0))), (q2, .inl (gK.ca (M_X4_init, K') 0, 9, .inl (fun _ => 0))), (q3, .inl (gK.ca (M_X4_init, K') 0, 9, .inl (fun _ => 0))), (q4, .inl (gK.ca (M_X4_init, K') 0, 9, .inl (fun _ => 0))), (q5, .inl (gK.ca (M_X4_init, K') 0, 5, .inl (fun _ => 0))), (q6, .inl (gK.ca (M_X4_init, K') 0, 5, .inl (fun _ => 0))), (q7, .inl (gK.ca (M_X4_init, K') 0, 5, .inl (fun _ => 0))), (q8, .inl (gK.ca (M_X4_init, K') 0, 5, .inl (fun _ => 0))), (q9, .inl (gK.ca (M_X4_init, K') 0, 8, .inl (fun _ => 0))), (q10, .inl (gK.ca (M_X4_init, K') 0, 8, .inl (fun _ => 0))), (q11, .inl (gK.ca (M_X4_init, K') 0, 8, .inl (fun _ => 0))), (q12, .inl (gK.ca (M_X4_init, K') 0, 8, .inl (fun _ => 0))), (q13, .inl (gK.ca (M_X4_init, K') 0, 8, .inl (fun _ => 0))), (q14, .inl (gK.ca (M_X4_init, K') 1, 800, .inr (.inl (fun _ => 0)))), (q15, .inl (gK.ca (M_X4_init, K') 0, 51, .inl (fun _ => 0))), (q16, .inl (gK.ca (M_X4_init, K') 0, 51, .inl (fun _ => 0))), (q17, .inl (gK.ca (M_X4_init, K') 0, 204, .inl (fun _ => 0))), (q18, .inl (gK.ca (M_X4_init, K') 0, 68, .inl (fun _ => 0))), (q19, .inl (gK.ca (M_X4_init, K') 0, 68, .inl (fun _ => 0))), (q20, .inl (gK.ca (M_X4_init, K') 0, 9, .inl (fun _ => 0))), (q21, .inl (gK.ca (M_X4_init, K') 0, 8, .inl (fun _ => 0))), (q22, .inl (gK.ca (M_X4_init, K') 1, 100, .inr (.inl (fun _ => 0))))]) rfl ?_
  refine h_ws (ws' := wsX4 _ h0 (fun k => [q0, q1, q2, q3, q4, q5, q6, q7, q8, q9, q10, q11, q12, q13, q14, q15, q16, q17, q18, q19, q20, q21, q22].getD k 0) (fun _ => 0) (fun _ => 0)) rfl ?_
  refine h_iconst (pc := 191) hK dX4_init_191 (show _ = (0 : Int32) by decide) ?_
  refine h_istore1 (pc := 192) (Lr' := [(1, .int (nI 0)), (0, .ref h0)]) hK dX4_init_192 (show 1 < 2 by decide) rfl ?_
  refine h_ws (ws' := wsX4 _ h0 (fun k => [q0, q1, q2, q3, q4, q5, q6, q7, q8, q9, q10, q11, q12, q13, q14, q15, q16, q17, q18, q19, q20, q21, q22].getD k 0) (fun j => if j < 0 then g40 j else 0) (fun j => if j < 0 then g3 j else 0)) (by rw [show (fun j : Nat => if j < 0 then g40 j else (0 : Int32)) = (fun _ => 0) from (if_0 g40).symm]; rw [show (fun j : Nat => if j < 0 then g3 j else (0 : Int32)) = (fun _ => 0) from (if_0 g3).symm]) ?_
  refine lp_X4_0 rfl hK _  ?_ 5 0 (by decide)
  exact k_ret (pc := 221) hK hE (Nat.le_of_ble_eq_true rfl) (Nat.le_of_ble_eq_true rfl) dX4_init_221 rfl ⟨_, rfl⟩
