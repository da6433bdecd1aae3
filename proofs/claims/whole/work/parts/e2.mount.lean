theorem upd_if (g : Nat → Int32) (i : Nat) : upd (fun j => if j < i then g j else 0) i (g i) = fun j => if j < i + 1 then g j else 0 := by
  funext j
  unfold upd
  by_cases h : j = i
  · subst h; rw [if_pos rfl, if_pos (by omega)]
  · rw [if_neg h]
    show (if j < i then g j else 0) = _
    by_cases h2 : j < i
    · rw [if_pos h2, if_pos (by omega)]
    · rw [if_neg h2, if_neg (by omega)]
theorem if_0 (g : Nat → Int32) : (fun _ => 0) = fun j : Nat => if j < 0 then g j else 0 := by
  funext j
  rw [if_neg (by omega)]
def g4 : Nat → Int32 := fun _ => -4
def g40 : Nat → Int32 := fun _ => 40
def g3 : Nat → Int32 := fun j => 3 * nI j
def M_X0_init : aM := (yX0_init, cX0_init, 2, none, 1, 12)
theorem ok_X0_init : a_okM M_X0_init 0 := ⟨⟨by decide +kernel, by decide +kernel⟩, by decide +kernel, a_in 103 (by decide +kernel) rfl, a_in 77 (by decide +kernel) rfl⟩
theorem dX0_init_0 : decode M_X0_init.2.1 0 = .ok (.aload_n 0, 1) := by decide +kernel
theorem dX0_init_1 : decode M_X0_init.2.1 1 = .ok (.invokespecial 3, 3) := by decide +kernel
theorem dX0_init_4 : decode M_X0_init.2.1 4 = .ok (.aload_n 0, 1) := by decide +kernel
theorem dX0_init_5 : decode M_X0_init.2.1 5 = .ok (.iconst 0, 1) := by decide +kernel
theorem dX0_init_6 : decode M_X0_init.2.1 6 = .ok (.putfield 9, 3) := by decide +kernel
theorem dX0_init_9 : decode M_X0_init.2.1 9 = .ok (.aload_n 0, 1) := by decide +kernel
theorem dX0_init_10 : decode M_X0_init.2.1 10 = .ok (.iconst 0, 1) := by decide +kernel
theorem dX0_init_11 : decode M_X0_init.2.1 11 = .ok (.putfield 15, 3) := by decide +kernel
theorem dX0_init_14 : decode M_X0_init.2.1 14 = .ok (.aload_n 0, 1) := by decide +kernel
theorem dX0_init_15 : decode M_X0_init.2.1 15 = .ok (.iconst 0, 1) := by decide +kernel
theorem dX0_init_16 : decode M_X0_init.2.1 16 = .ok (.putfield 18, 3) := by decide +kernel
theorem dX0_init_19 : decode M_X0_init.2.1 19 = .ok (.aload_n 0, 1) := by decide +kernel
theorem dX0_init_20 : decode M_X0_init.2.1 20 = .ok (.iconst 0, 1) := by decide +kernel
theorem dX0_init_21 : decode M_X0_init.2.1 21 = .ok (.putfield 21, 3) := by decide +kernel
theorem dX0_init_24 : decode M_X0_init.2.1 24 = .ok (.aload_n 0, 1) := by decide +kernel
theorem dX0_init_25 : decode M_X0_init.2.1 25 = .ok (.bipush 9, 2) := by decide +kernel
theorem dX0_init_27 : decode M_X0_init.2.1 27 = .ok (.newarray .int, 2) := by decide +kernel
theorem dX0_init_29 : decode M_X0_init.2.1 29 = .ok (.putfield 24, 3) := by decide +kernel
theorem dX0_init_32 : decode M_X0_init.2.1 32 = .ok (.aload_n 0, 1) := by decide +kernel
theorem dX0_init_33 : decode M_X0_init.2.1 33 = .ok (.bipush 9, 2) := by decide +kernel
theorem dX0_init_35 : decode M_X0_init.2.1 35 = .ok (.newarray .int, 2) := by decide +kernel
theorem dX0_init_37 : decode M_X0_init.2.1 37 = .ok (.putfield 28, 3) := by decide +kernel
theorem dX0_init_40 : decode M_X0_init.2.1 40 = .ok (.aload_n 0, 1) := by decide +kernel
theorem dX0_init_41 : decode M_X0_init.2.1 41 = .ok (.bipush 9, 2) := by decide +kernel
theorem dX0_init_43 : decode M_X0_init.2.1 43 = .ok (.newarray .int, 2) := by decide +kernel
theorem dX0_init_45 : decode M_X0_init.2.1 45 = .ok (.putfield 31, 3) := by decide +kernel
theorem dX0_init_48 : decode M_X0_init.2.1 48 = .ok (.aload_n 0, 1) := by decide +kernel
theorem dX0_init_49 : decode M_X0_init.2.1 49 = .ok (.bipush 9, 2) := by decide +kernel
theorem dX0_init_51 : decode M_X0_init.2.1 51 = .ok (.newarray .int, 2) := by decide +kernel
theorem dX0_init_53 : decode M_X0_init.2.1 53 = .ok (.putfield 34, 3) := by decide +kernel
theorem dX0_init_56 : decode M_X0_init.2.1 56 = .ok (.aload_n 0, 1) := by decide +kernel
theorem dX0_init_57 : decode M_X0_init.2.1 57 = .ok (.bipush 9, 2) := by decide +kernel
theorem dX0_init_59 : decode M_X0_init.2.1 59 = .ok (.newarray .int, 2) := by decide +kernel
theorem dX0_init_61 : decode M_X0_init.2.1 61 = .ok (.putfield 37, 3) := by decide +kernel
theorem dX0_init_64 : decode M_X0_init.2.1 64 = .ok (.aload_n 0, 1) := by decide +kernel
theorem dX0_init_65 : decode M_X0_init.2.1 65 = .ok (.iconst 5, 1) := by decide +kernel
theorem dX0_init_66 : decode M_X0_init.2.1 66 = .ok (.newarray .int, 2) := by decide +kernel
theorem dX0_init_68 : decode M_X0_init.2.1 68 = .ok (.putfield 40, 3) := by decide +kernel
theorem dX0_init_71 : decode M_X0_init.2.1 71 = .ok (.aload_n 0, 1) := by decide +kernel
theorem dX0_init_72 : decode M_X0_init.2.1 72 = .ok (.iconst 5, 1) := by decide +kernel
theorem dX0_init_73 : decode M_X0_init.2.1 73 = .ok (.newarray .int, 2) := by decide +kernel
theorem dX0_init_75 : decode M_X0_init.2.1 75 = .ok (.putfield 43, 3) := by decide +kernel
theorem dX0_init_78 : decode M_X0_init.2.1 78 = .ok (.aload_n 0, 1) := by decide +kernel
theorem dX0_init_79 : decode M_X0_init.2.1 79 = .ok (.iconst 5, 1) := by decide +kernel
theorem dX0_init_80 : decode M_X0_init.2.1 80 = .ok (.newarray .int, 2) := by decide +kernel
theorem dX0_init_82 : decode M_X0_init.2.1 82 = .ok (.putfield 46, 3) := by decide +kernel
theorem dX0_init_85 : decode M_X0_init.2.1 85 = .ok (.aload_n 0, 1) := by decide +kernel
theorem dX0_init_86 : decode M_X0_init.2.1 86 = .ok (.iconst 5, 1) := by decide +kernel
theorem dX0_init_87 : decode M_X0_init.2.1 87 = .ok (.newarray .int, 2) := by decide +kernel
theorem dX0_init_89 : decode M_X0_init.2.1 89 = .ok (.putfield 49, 3) := by decide +kernel
theorem dX0_init_92 : decode M_X0_init.2.1 92 = .ok (.iconst 0, 1) := by decide +kernel
theorem dX0_init_93 : decode M_X0_init.2.1 93 = .ok (.istore_n 1, 1) := by decide +kernel
theorem dX0_init_94 : decode M_X0_init.2.1 94 = .ok (.iload_n 1, 1) := by decide +kernel
theorem dX0_init_95 : decode M_X0_init.2.1 95 = .ok (.bipush 9, 2) := by decide +kernel
theorem dX0_init_97 : decode M_X0_init.2.1 97 = .ok (.if_icmp .ge 17, 3) := by decide +kernel
theorem dX0_init_100 : decode M_X0_init.2.1 100 = .ok (.aload_n 0, 1) := by decide +kernel
theorem dX0_init_101 : decode M_X0_init.2.1 101 = .ok (.getfield 37, 3) := by decide +kernel
theorem dX0_init_104 : decode M_X0_init.2.1 104 = .ok (.iload_n 1, 1) := by decide +kernel
theorem dX0_init_105 : decode M_X0_init.2.1 105 = .ok (.bipush (-4), 2) := by decide +kernel
theorem dX0_init_107 : decode M_X0_init.2.1 107 = .ok (.iastore, 1) := by decide +kernel
theorem dX0_init_108 : decode M_X0_init.2.1 108 = .ok (.iinc 1 1, 3) := by decide +kernel
theorem dX0_init_111 : decode M_X0_init.2.1 111 = .ok (.goto (-17), 3) := by decide +kernel
theorem dX0_init_114 : decode M_X0_init.2.1 114 = .ok (.iconst 0, 1) := by decide +kernel
theorem dX0_init_115 : decode M_X0_init.2.1 115 = .ok (.istore_n 1, 1) := by decide +kernel
theorem dX0_init_116 : decode M_X0_init.2.1 116 = .ok (.iload_n 1, 1) := by decide +kernel
theorem dX0_init_117 : decode M_X0_init.2.1 117 = .ok (.iconst 5, 1) := by decide +kernel
theorem dX0_init_118 : decode M_X0_init.2.1 118 = .ok (.if_icmp .ge 26, 3) := by decide +kernel
theorem dX0_init_121 : decode M_X0_init.2.1 121 = .ok (.aload_n 0, 1) := by decide +kernel
theorem dX0_init_122 : decode M_X0_init.2.1 122 = .ok (.getfield 40, 3) := by decide +kernel
theorem dX0_init_125 : decode M_X0_init.2.1 125 = .ok (.iload_n 1, 1) := by decide +kernel
theorem dX0_init_126 : decode M_X0_init.2.1 126 = .ok (.bipush 40, 2) := by decide +kernel
theorem dX0_init_128 : decode M_X0_init.2.1 128 = .ok (.iastore, 1) := by decide +kernel
theorem dX0_init_129 : decode M_X0_init.2.1 129 = .ok (.aload_n 0, 1) := by decide +kernel
theorem dX0_init_130 : decode M_X0_init.2.1 130 = .ok (.getfield 43, 3) := by decide +kernel
theorem dX0_init_133 : decode M_X0_init.2.1 133 = .ok (.iload_n 1, 1) := by decide +kernel
theorem dX0_init_134 : decode M_X0_init.2.1 134 = .ok (.iconst 3, 1) := by decide +kernel
theorem dX0_init_135 : decode M_X0_init.2.1 135 = .ok (.iload_n 1, 1) := by decide +kernel
theorem dX0_init_136 : decode M_X0_init.2.1 136 = .ok (.imul, 1) := by decide +kernel
theorem dX0_init_137 : decode M_X0_init.2.1 137 = .ok (.iastore, 1) := by decide +kernel
theorem dX0_init_138 : decode M_X0_init.2.1 138 = .ok (.iinc 1 1, 3) := by decide +kernel
theorem dX0_init_141 : decode M_X0_init.2.1 141 = .ok (.goto (-25), 3) := by decide +kernel
theorem dX0_init_144 : decode M_X0_init.2.1 144 = .ok (.return_, 1) := by decide +kernel
theorem hP_X0_9 : a_fw RX0 9 0 0 (.int) := ⟨RX0, TX0, 13, tyX0, rfl, tin_X0, by decide, a_in 105 (by decide +kernel) rfl, tyX0_ok, nmX0, rfl, by decide +kernel⟩
theorem hP_X0_15 : a_fw RX0 15 0 1 (.int) := ⟨RX0, TX0, 13, tyX0, rfl, tin_X0, by decide, a_in 107 (by decide +kernel) rfl, tyX0_ok, nmX0, rfl, by decide +kernel⟩
theorem hP_X0_18 : a_fw RX0 18 0 2 (.int) := ⟨RX0, TX0, 13, tyX0, rfl, tin_X0, by decide, a_in 109 (by decide +kernel) rfl, tyX0_ok, nmX0, rfl, by decide +kernel⟩
theorem hP_X0_21 : a_fw RX0 21 0 3 (.int) := ⟨RX0, TX0, 13, tyX0, rfl, tin_X0, by decide, a_in 111 (by decide +kernel) rfl, tyX0_ok, nmX0, rfl, by decide +kernel⟩
theorem hF_X0_24 : a_fF RX0 24 0 4 (.array .int) := ⟨RX0, TX0, 13, tyX0, rfl, tin_X0, by decide, a_in 113 (by decide +kernel) rfl, tyX0_ok, nmX0, rfl, by decide +kernel, rfl⟩
theorem hF_X0_28 : a_fF RX0 28 0 5 (.array .int) := ⟨RX0, TX0, 13, tyX0, rfl, tin_X0, by decide, a_in 115 (by decide +kernel) rfl, tyX0_ok, nmX0, rfl, by decide +kernel, rfl⟩
theorem hF_X0_31 : a_fF RX0 31 0 6 (.array .int) := ⟨RX0, TX0, 13, tyX0, rfl, tin_X0, by decide, a_in 117 (by decide +kernel) rfl, tyX0_ok, nmX0, rfl, by decide +kernel, rfl⟩
theorem hF_X0_34 : a_fF RX0 34 0 7 (.array .int) := ⟨RX0, TX0, 13, tyX0, rfl, tin_X0, by decide, a_in 119 (by decide +kernel) rfl, tyX0_ok, nmX0, rfl, by decide +kernel, rfl⟩
theorem hF_X0_37 : a_fF RX0 37 0 8 (.array .int) := ⟨RX0, TX0, 13, tyX0, rfl, tin_X0, by decide, a_in 120 (by decide +kernel) rfl, tyX0_ok, nmX0, rfl, by decide +kernel, rfl⟩
theorem hF_X0_40 : a_fF RX0 40 0 9 (.array .int) := ⟨RX0, TX0, 13, tyX0, rfl, tin_X0, by decide, a_in 122 (by decide +kernel) rfl, tyX0_ok, nmX0, rfl, by decide +kernel, rfl⟩
theorem hF_X0_43 : a_fF RX0 43 0 10 (.array .int) := ⟨RX0, TX0, 13, tyX0, rfl, tin_X0, by decide, a_in 124 (by decide +kernel) rfl, tyX0_ok, nmX0, rfl, by decide +kernel, rfl⟩
theorem hF_X0_46 : a_fF RX0 46 0 11 (.array .int) := ⟨RX0, TX0, 13, tyX0, rfl, tin_X0, by decide, a_in 126 (by decide +kernel) rfl, tyX0_ok, nmX0, rfl, by decide +kernel, rfl⟩
theorem hF_X0_49 : a_fF RX0 49 0 12 (.array .int) := ⟨RX0, TX0, 13, tyX0, rfl, tin_X0, by decide, a_in 128 (by decide +kernel) rfl, tyX0_ok, nmX0, rfl, by decide +kernel, rfl⟩
theorem xo_X0 : Cond.methodLink RX0 3 objectInit ∈ a_T := a_in 104 (by decide +kernel) rfl
def zX0 : List Value := [.int 0, .int 0, .int 0, .int 0, .null, .null, .null, .null, .null, .null, .null, .null, .null]
def wsX0 (ca : Nat → Nat) (h0 : Nat) (q : Nat → Nat) (f4 f5 f6 : Nat → Int32) : va_W := [(h0, .inr (0, [.int 0, .int 0, .int 0, .int 0, .ref (q 0), .ref (q 1), .ref (q 2), .ref (q 3), .ref (q 4), .ref (q 5), .ref (q 6), .ref (q 7), .ref (q 8)])), (q 0, .inl (ca 0, 9, .inl (fun _ => 0))), (q 1, .inl (ca 0, 9, .inl (fun _ => 0))), (q 2, .inl (ca 0, 9, .inl (fun _ => 0))), (q 3, .inl (ca 0, 9, .inl (fun _ => 0))), (q 4, .inl (ca 0, 9, .inl f4)), (q 5, .inl (ca 0, 5, .inl f5)), (q 6, .inl (ca 0, 5, .inl f6)), (q 7, .inl (ca 0, 5, .inl (fun _ => 0))), (q 8, .inl (ca 0, 5, .inl (fun _ => 0)))]
theorem hg_X0_37 : a_fs RX0 37 0 8 := ⟨RX0, TX0, 13, rfl, tin_X0, by decide, a_in 120 (by decide +kernel) rfl⟩
theorem hg_X0_40 : a_fs RX0 40 0 9 := ⟨RX0, TX0, 13, rfl, tin_X0, by decide, a_in 122 (by decide +kernel) rfl⟩
theorem hg_X0_43 : a_fs RX0 43 0 10 := ⟨RX0, TX0, 13, rfl, tin_X0, by decide, a_in 124 (by decide +kernel) rfl⟩
theorem lp_X0_0 {K : gK} (hM : K.M = M_X0_init) (hK : K.Ok) {t u h0 : Nat} (q : Nat → Nat) (f5 f6 : Nat → Int32) (next : Hw K t u 114 [(1, .int (nI 9)), (0, .ref h0)] [] (wsX0 K.ca h0 q (fun j => if j < 9 then g4 j else 0) f5 f6)) : ∀ (n i : Nat), i + n = 9 → Hw K t u 94 [(1, .int (nI i)), (0, .ref h0)] [] (wsX0 K.ca h0 q (fun j => if j < i then g4 j else 0) f5 f6) := by
  obtain ⟨M, K'⟩ := K
  have hM : M = M_X0_init := hM
  subst hM
  intro n
  induction n with
  | zero =>
    intro i hi
    obtain rfl : i = 9 := by omega
    refine h_iload (pc := 94) hK dX0_init_94 rfl List.mem_cons_self ?_
    refine h_bipush (pc := 95) hK dX0_init_95 (show _ = (9 : Int32) by decide) ?_
    exact h_geT (pc := 97) (tgt := 114) hK dX0_init_97 (by decide) (by decide) next
  | succ n ih =>
    intro i hi
    refine h_iload (pc := 94) hK dX0_init_94 rfl List.mem_cons_self ?_
    refine h_bipush (pc := 95) hK dX0_init_95 (show _ = (9 : Int32) by decide) ?_
    refine h_geF (pc := 97) (tgt := 114) hK dX0_init_97 (by decide) (show ¬ nI 9 ≤ nI i from nI_ge (by omega) (by decide)) ?_
    refine h_aload (pc := 100) hK dX0_init_100 rfl (List.mem_cons_of_mem _ List.mem_cons_self) ?_
    refine h_getR (pc := 101) (q0 := 0) (k := 8) (v := .ref (q 4)) hK dX0_init_101 hg_X0_37 rfl rfl ?_
    refine h_iload (pc := 104) hK dX0_init_104 rfl List.mem_cons_self ?_
    refine h_bipush (pc := 105) hK dX0_init_105 (show _ = (-4 : Int32) by decide) ?_
    refine h_iast (pc := 107) (q0 := 5) (n := 9) hK dX0_init_107 rfl (vp_in_nI (by omega) (by decide)) ?_
    refine h_ws (ws' := wsX0 _ h0 q (upd (fun j => if j < i then g4 j else 0) (nI i).toNatClampNeg (g4 i)) f5 f6) rfl ?_
    rw [nI_clamp (show i < 2 ^ 31 by omega), upd_if]
    refine h_iinc1 (pc := 108) hK dX0_init_108 (show 1 < 2 by decide) (nI_1 i) ?_
    refine h_goto (pc := 111) (tgt := 94) hK dX0_init_111 (by decide) ?_
    exact ih (i + 1) (by omega)
theorem lp_X0_1 {K : gK} (hM : K.M = M_X0_init) (hK : K.Ok) {t u h0 : Nat} (q : Nat → Nat) (f4 : Nat → Int32) (next : Hw K t u 144 [(1, .int (nI 5)), (0, .ref h0)] [] (wsX0 K.ca h0 q f4 (fun j => if j < 5 then g40 j else 0) (fun j => if j < 5 then g3 j else 0))) : ∀ (n i : Nat), i + n = 5 → Hw K t u 116 [(1, .int (nI i)), (0, .ref h0)] [] (wsX0 K.ca h0 q f4 (fun j => if j < i then g40 j else 0) (fun j => if j < i then g3 j else 0)) := by
  obtain ⟨M, K'⟩ := K
  have hM : M = M_X0_init := hM
  subst hM
  intro n
  induction n with
  | zero =>
    intro i hi
    obtain rfl : i = 5 := by omega
    refine h_iload (pc := 116) hK dX0_init_116 rfl List.mem_cons_self ?_
    refine h_iconst (pc := 117) hK dX0_init_117 (show _ = (5 : Int32) by decide) ?_
    exact h_geT (pc := 118) (tgt := 144) hK dX0_init_118 (by decide) (by decide) next
  | succ n ih =>
    intro i hi
    refine h_iload (pc := 116) hK dX0_init_116 rfl List.mem_cons_self ?_
    refine h_iconst (pc := 117) hK dX0_init_117 (show _ = (5 : Int32) by decide) ?_
    refine h_geF (pc := 118) (tgt := 144) hK dX0_init_118 (by decide) (show ¬ nI 5 ≤ nI i from nI_ge (by omega) (by decide)) ?_
    refine h_aload (pc := 121) hK dX0_init_121 rfl (List.mem_cons_of_mem _ List.mem_cons_self) ?_
    refine h_getR (pc := 122) (q0 := 0) (k := 9) (v := .ref (q 5)) hK dX0_init_122 hg_X0_40 rfl rfl ?_
    refine h_iload (pc := 125) hK dX0_init_125 rfl List.mem_cons_self ?_
    refine h_bipush (pc := 126) hK dX0_init_126 (show _ = (40 : Int32) by decide) ?_
    refine h_iast (pc := 128) (q0 := 6) (n := 5) hK dX0_init_128 rfl (vp_in_nI (by omega) (by decide)) ?_
    refine h_ws (ws' := wsX0 _ h0 q f4 (upd (fun j => if j < i then g40 j else 0) (nI i).toNatClampNeg (g40 i)) (fun j => if j < i then g3 j else 0)) rfl ?_
    rw [nI_clamp (show i < 2 ^ 31 by omega), upd_if]
    refine h_aload (pc := 129) hK dX0_init_129 rfl (List.mem_cons_of_mem _ List.mem_cons_self) ?_
    refine h_getR (pc := 130) (q0 := 0) (k := 10) (v := .ref (q 6)) hK dX0_init_130 hg_X0_43 rfl rfl ?_
    refine h_iload (pc := 133) hK dX0_init_133 rfl List.mem_cons_self ?_
    refine h_iconst (pc := 134) hK dX0_init_134 (show _ = (3 : Int32) by decide) ?_
    refine h_iload (pc := 135) hK dX0_init_135 rfl List.mem_cons_self ?_
    refine h_imul (pc := 136) hK dX0_init_136 ?_
    refine h_iast (pc := 137) (q0 := 7) (n := 5) hK dX0_init_137 rfl (vp_in_nI (by omega) (by decide)) ?_
    refine h_ws (ws' := wsX0 _ h0 q f4 (fun j => if j < (i + 1) then g40 j else 0) (upd (fun j => if j < i then g3 j else 0) (nI i).toNatClampNeg (g3 i))) rfl ?_
    rw [nI_clamp (show i < 2 ^ 31 by omega), upd_if]
    refine h_iinc1 (pc := 138) hK dX0_init_138 (show 1 < 2 by decide) (nI_1 i) ?_
    refine h_goto (pc := 141) (tgt := 116) hK dX0_init_141 (by decide) ?_
    exact ih (i + 1) (by omega)
def postX0 (ca : Nat → Nat) (h0 : Nat) (ws : va_W) : Prop := ∃ q : Nat → Nat, ws = wsX0 ca h0 q (fun j => if j < 9 then g4 j else 0) (fun j => if j < 5 then g40 j else 0) (fun j => if j < 5 then g3 j else 0)
theorem K_X0 : Kp M_X0_init 0 zX0 9 65 postX0 := by
  refine k_entry (by decide +kernel) rfl (Nat.le_of_ble_eq_true rfl) (fun K h0 hM hK hE => ?_)
  obtain ⟨M, K'⟩ := K
  have hM : M = M_X0_init := hM
  subst hM
  have hR : gK.R (M_X0_init, K') = kR M_X0_init 9 65 := hE.2.2.1
  refine h_aload (pc := 0) hK dX0_init_0 rfl List.mem_cons_self ?_
  refine h_objInit (pc := 1) hK xo_X0 xoI xoC dX0_init_1 (by rw [hR]; exact Nat.le_of_ble_eq_true rfl) (by rw [hR]; exact Nat.le_of_ble_eq_true rfl) ?_
  unfold zX0
  refine h_aload (pc := 4) hK dX0_init_4 rfl List.mem_cons_self ?_
  refine h_iconst (pc := 5) hK dX0_init_5 (show _ = (0 : Int32) by decide) ?_
  refine h_put (pc := 6) (q0 := 0) hK dX0_init_6 hP_X0_9 rfl rfl rfl (Nat.le_of_ble_eq_true rfl) ?_
  refine h_aload (pc := 9) hK dX0_init_9 rfl List.mem_cons_self ?_
  refine h_iconst (pc := 10) hK dX0_init_10 (show _ = (0 : Int32) by decide) ?_
  refine h_put (pc := 11) (q0 := 0) hK dX0_init_11 hP_X0_15 rfl rfl rfl (Nat.le_of_ble_eq_true rfl) ?_
  refine h_aload (pc := 14) hK dX0_init_14 rfl List.mem_cons_self ?_
  refine h_iconst (pc := 15) hK dX0_init_15 (show _ = (0 : Int32) by decide) ?_
  refine h_put (pc := 16) (q0 := 0) hK dX0_init_16 hP_X0_18 rfl rfl rfl (Nat.le_of_ble_eq_true rfl) ?_
  refine h_aload (pc := 19) hK dX0_init_19 rfl List.mem_cons_self ?_
  refine h_iconst (pc := 20) hK dX0_init_20 (show _ = (0 : Int32) by decide) ?_
  refine h_put (pc := 21) (q0 := 0) hK dX0_init_21 hP_X0_21 rfl rfl rfl (Nat.le_of_ble_eq_true rfl) ?_
  refine h_aload (pc := 24) hK dX0_init_24 rfl List.mem_cons_self ?_
  refine h_bipush (pc := 25) hK dX0_init_25 (show _ = (9 : Int32) by decide) ?_
  refine h_fld (pc := 27) (N := 9) hK hE.2.2.2.1 xarrI dX0_init_27 dX0_init_29 hF_X0_24 (by decide) (by decide) (by decide) (by rw [hR]; exact Nat.le_of_ble_eq_true rfl) (by rw [hR]; exact Nat.le_of_ble_eq_true rfl) (Nat.le_of_ble_eq_true rfl) (fun q0 => ?_)
  refine h_aload (pc := 32) hK dX0_init_32 rfl List.mem_cons_self ?_
  refine h_bipush (pc := 33) hK dX0_init_33 (show _ = (9 : Int32) by decide) ?_
  refine h_fld (pc := 35) (N := 9) hK hE.2.2.2.1 xarrI dX0_init_35 dX0_init_37 hF_X0_28 (by decide) (by decide) (by decide) (by rw [hR]; exact Nat.le_of_ble_eq_true rfl) (by rw [hR]; exact Nat.le_of_ble_eq_true rfl) (Nat.le_of_ble_eq_true rfl) (fun q1 => ?_)
  refine h_aload (pc := 40) hK dX0_init_40 rfl List.mem_cons_self ?_
  refine h_bipush (pc := 41) hK dX0_init_41 (show _ = (9 : Int32) by decide) ?_
  refine h_fld (pc := 43) (N := 9) hK hE.2.2.2.1 xarrI dX0_init_43 dX0_init_45 hF_X0_31 (by decide) (by decide) (by decide) (by rw [hR]; exact Nat.le_of_ble_eq_true rfl) (by rw [hR]; exact Nat.le_of_ble_eq_true rfl) (Nat.le_of_ble_eq_true rfl) (fun q2 => ?_)
  refine h_aload (pc := 48) hK dX0_init_48 rfl List.mem_cons_self ?_
  refine h_bipush (pc := 49) hK dX0_init_49 (show _ = (9 : Int32) by decide) ?_
  refine h_fld (pc := 51) (N := 9) hK hE.2.2.2.1 xarrI dX0_init_51 dX0_init_53 hF_X0_34 (by decide) (by decide) (by decide) (by rw [hR]; exact Nat.le_of_ble_eq_true rfl) (by rw [hR]; exact Nat.le_of_ble_eq_true rfl) (Nat.le_of_ble_eq_true rfl) (fun q3 => ?_)
  refine h_aload (pc := 56) hK dX0_init_56 rfl List.mem_cons_self ?_
  refine h_bipush (pc := 57) hK dX0_init_57 (show _ = (9 : Int32) by decide) ?_
  refine h_fld (pc := 59) (N := 9) hK hE.2.2.2.1 xarrI dX0_init_59 dX0_init_61 hF_X0_37 (by decide) (by decide) (by decide) (by rw [hR]; exact Nat.le_of_ble_eq_true rfl) (by rw [hR]; exact Nat.le_of_ble_eq_true rfl) (Nat.le_of_ble_eq_true rfl) (fun q4 => ?_)
  refine h_aload (pc := 64) hK dX0_init_64 rfl List.mem_cons_self ?_
  refine h_iconst (pc := 65) hK dX0_init_65 (show _ = (5 : Int32) by decide) ?_
  refine h_fld (pc := 66) (N := 5) hK hE.2.2.2.1 xarrI dX0_init_66 dX0_init_68 hF_X0_40 (by decide) (by decide) (by decide) (by rw [hR]; exact Nat.le_of_ble_eq_true rfl) (by rw [hR]; exact Nat.le_of_ble_eq_true rfl) (Nat.le_of_ble_eq_true rfl) (fun q5 => ?_)
  refine h_aload (pc := 71) hK dX0_init_71 rfl List.mem_cons_self ?_
  refine h_iconst (pc := 72) hK dX0_init_72 (show _ = (5 : Int32) by decide) ?_
  refine h_fld (pc := 73) (N := 5) hK hE.2.2.2.1 xarrI dX0_init_73 dX0_init_75 hF_X0_43 (by decide) (by decide) (by decide) (by rw [hR]; exact Nat.le_of_ble_eq_true rfl) (by rw [hR]; exact Nat.le_of_ble_eq_true rfl) (Nat.le_of_ble_eq_true rfl) (fun q6 => ?_)
  refine h_aload (pc := 78) hK dX0_init_78 rfl List.mem_cons_self ?_
  refine h_iconst (pc := 79) hK dX0_init_79 (show _ = (5 : Int32) by decide) ?_
  refine h_fld (pc := 80) (N := 5) hK hE.2.2.2.1 xarrI dX0_init_80 dX0_init_82 hF_X0_46 (by decide) (by decide) (by decide) (by rw [hR]; exact Nat.le_of_ble_eq_true rfl) (by rw [hR]; exact Nat.le_of_ble_eq_true rfl) (Nat.le_of_ble_eq_true rfl) (fun q7 => ?_)
  refine h_aload (pc := 85) hK dX0_init_85 rfl List.mem_cons_self ?_
  refine h_iconst (pc := 86) hK dX0_init_86 (show _ = (5 : Int32) by decide) ?_
  refine h_fld (pc := 87) (N := 5) hK hE.2.2.2.1 xarrI dX0_init_87 dX0_init_89 hF_X0_49 (by decide) (by decide) (by decide) (by rw [hR]; exact Nat.le_of_ble_eq_true rfl) (by rw [hR]; exact Nat.le_of_ble_eq_true rfl) (Nat.le_of_ble_eq_true rfl) (fun q8 => ?_)
  refine h_ws (ws' := wsX0 _ h0 (fun k => [q0, q1, q2, q3, q4, q5, q6, q7, q8].getD k 0) (fun _ => 0) (fun _ => 0) (fun _ => 0)) rfl ?_
  refine h_iconst (pc := 92) hK dX0_init_92 (show _ = (0 : Int32) by decide) ?_
  refine h_istore1 (pc := 93) (Lr' := [(1, .int (nI 0)), (0, .ref h0)]) hK dX0_init_93 (show 1 < 2 by decide) rfl ?_
  refine h_ws (ws' := wsX0 _ h0 (fun k => [q0, q1, q2, q3, q4, q5, q6, q7, q8].getD k 0) (fun j => if j < 0 then g4 j else 0) (fun _ => 0) (fun _ => 0)) (by rw [show (fun j : Nat => if j < 0 then g4 j else (0 : Int32)) = (fun _ => 0) from (if_0 g4).symm]) ?_
  refine lp_X0_0 rfl hK _ (fun _ => 0) (fun _ => 0) ?_ 9 0 (by decide)
  refine h_iconst (pc := 114) hK dX0_init_114 (show _ = (0 : Int32) by decide) ?_
  refine h_istore1 (pc := 115) (Lr' := [(1, .int (nI 0)), (0, .ref h0)]) hK dX0_init_115 (show 1 < 2 by decide) rfl ?_
  refine h_ws (ws' := wsX0 _ h0 (fun k => [q0, q1, q2, q3, q4, q5, q6, q7, q8].getD k 0) (fun j => if j < 9 then g4 j else 0) (fun j => if j < 0 then g40 j else 0) (fun j => if j < 0 then g3 j else 0)) (by rw [show (fun j : Nat => if j < 0 then g40 j else (0 : Int32)) = (fun _ => 0) from (if_0 g40).symm]; rw [show (fun j : Nat => if j < 0 then g3 j else (0 : Int32)) = (fun _ => 0) from (if_0 g3).symm]) ?_
  refine lp_X0_1 rfl hK _ (fun j => if j < 9 then g4 j else 0) ?_ 5 0 (by decide)
  exact k_ret (pc := 144) hK hE (Nat.le_of_ble_eq_true rfl) (Nat.le_of_ble_eq_true rfl) dX0_init_144 rfl ⟨_, rfl⟩
