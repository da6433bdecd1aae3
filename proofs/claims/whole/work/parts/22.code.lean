/-! the decompiled methods: each f_ is what its bytecode does to a world; each s_ ties it to the machine. Written by program (wip/gen/gen.py). -/
def M_X4_whatIs : aM := (yX4_whatIs, cX4_whatIs, 7, (some .int), 7, 160)
theorem ok_X4_whatIs : a_okM M_X4_whatIs 3 := ⟨⟨by decide +kernel, by decide +kernel⟩, by decide +kernel, a_in 1324 (by decide +kernel) rfl, a_in 79 (by decide +kernel) rfl⟩
theorem dX4_whatIs_0 : decode M_X4_whatIs.2.1 0 = .ok (.aload_n 0, 1) := by decide +kernel
theorem dX4_whatIs_1 : decode M_X4_whatIs.2.1 1 = .ok (.iconst 0, 1) := by decide +kernel
theorem dX4_whatIs_2 : decode M_X4_whatIs.2.1 2 = .ok (.putfield 80, 3) := by decide +kernel
theorem dX4_whatIs_5 : decode M_X4_whatIs.2.1 5 = .ok (.aload_n 0, 1) := by decide +kernel
theorem dX4_whatIs_6 : decode M_X4_whatIs.2.1 6 = .ok (.iload_n 2, 1) := by decide +kernel
theorem dX4_whatIs_7 : decode M_X4_whatIs.2.1 7 = .ok (.invokevirtual 185, 3) := by decide +kernel
theorem dX4_whatIs_10 : decode M_X4_whatIs.2.1 10 = .ok (.ifCond .eq 21, 3) := by decide +kernel
theorem dX4_whatIs_13 : decode M_X4_whatIs.2.1 13 = .ok (.iload_n 3, 1) := by decide +kernel
theorem dX4_whatIs_14 : decode M_X4_whatIs.2.1 14 = .ok (.i2l, 1) := by decide +kernel
theorem dX4_whatIs_15 : decode M_X4_whatIs.2.1 15 = .ok (.lconst 0, 1) := by decide +kernel
theorem dX4_whatIs_16 : decode M_X4_whatIs.2.1 16 = .ok (.lconst 1, 1) := by decide +kernel
theorem dX4_whatIs_17 : decode M_X4_whatIs.2.1 17 = .ok (.invokestatic 86, 3) := by decide +kernel
theorem dX4_whatIs_20 : decode M_X4_whatIs.2.1 20 = .ok (.ifCond .eq 11, 3) := by decide +kernel
theorem dX4_whatIs_23 : decode M_X4_whatIs.2.1 23 = .ok (.aload_n 0, 1) := by decide +kernel
theorem dX4_whatIs_24 : decode M_X4_whatIs.2.1 24 = .ok (.iload_n 1, 1) := by decide +kernel
theorem dX4_whatIs_25 : decode M_X4_whatIs.2.1 25 = .ok (.invokevirtual 215, 3) := by decide +kernel
theorem dX4_whatIs_28 : decode M_X4_whatIs.2.1 28 = .ok (.goto 4, 3) := by decide +kernel
theorem dX4_whatIs_31 : decode M_X4_whatIs.2.1 31 = .ok (.iconst (-1), 1) := by decide +kernel
theorem dX4_whatIs_32 : decode M_X4_whatIs.2.1 32 = .ok (.istore 4, 2) := by decide +kernel
theorem dX4_whatIs_34 : decode M_X4_whatIs.2.1 34 = .ok (.iload 4, 2) := by decide +kernel
theorem dX4_whatIs_36 : decode M_X4_whatIs.2.1 36 = .ok (.ifCond .ge 6, 3) := by decide +kernel
theorem dX4_whatIs_39 : decode M_X4_whatIs.2.1 39 = .ok (.iload 4, 2) := by decide +kernel
theorem dX4_whatIs_41 : decode M_X4_whatIs.2.1 41 = .ok (.ireturn, 1) := by decide +kernel
theorem dX4_whatIs_42 : decode M_X4_whatIs.2.1 42 = .ok (.iconst 0, 1) := by decide +kernel
theorem dX4_whatIs_43 : decode M_X4_whatIs.2.1 43 = .ok (.istore 5, 2) := by decide +kernel
theorem dX4_whatIs_45 : decode M_X4_whatIs.2.1 45 = .ok (.aload_n 0, 1) := by decide +kernel
theorem dX4_whatIs_46 : decode M_X4_whatIs.2.1 46 = .ok (.invokevirtual 221, 3) := by decide +kernel
theorem dX4_whatIs_49 : decode M_X4_whatIs.2.1 49 = .ok (.iconst 0, 1) := by decide +kernel
theorem dX4_whatIs_50 : decode M_X4_whatIs.2.1 50 = .ok (.istore 6, 2) := by decide +kernel
theorem dX4_whatIs_52 : decode M_X4_whatIs.2.1 52 = .ok (.iload 6, 2) := by decide +kernel
theorem dX4_whatIs_54 : decode M_X4_whatIs.2.1 54 = .ok (.iload_n 3, 1) := by decide +kernel
theorem dX4_whatIs_55 : decode M_X4_whatIs.2.1 55 = .ok (.ifCond .ne 8, 3) := by decide +kernel
theorem dX4_whatIs_58 : decode M_X4_whatIs.2.1 58 = .ok (.bipush 8, 2) := by decide +kernel
theorem dX4_whatIs_60 : decode M_X4_whatIs.2.1 60 = .ok (.goto 5, 3) := by decide +kernel
theorem dX4_whatIs_63 : decode M_X4_whatIs.2.1 63 = .ok (.bipush 10, 2) := by decide +kernel
theorem dX4_whatIs_65 : decode M_X4_whatIs.2.1 65 = .ok (.if_icmp .ge 75, 3) := by decide +kernel
theorem dX4_whatIs_68 : decode M_X4_whatIs.2.1 68 = .ok (.aload_n 0, 1) := by decide +kernel
theorem dX4_whatIs_69 : decode M_X4_whatIs.2.1 69 = .ok (.getfield 7, 3) := by decide +kernel
theorem dX4_whatIs_72 : decode M_X4_whatIs.2.1 72 = .ok (.iload_n 2, 1) := by decide +kernel
theorem dX4_whatIs_73 : decode M_X4_whatIs.2.1 73 = .ok (.iload_n 3, 1) := by decide +kernel
theorem dX4_whatIs_74 : decode M_X4_whatIs.2.1 74 = .ok (.ifCond .ne 8, 3) := by decide +kernel
theorem dX4_whatIs_77 : decode M_X4_whatIs.2.1 77 = .ok (.iload 6, 2) := by decide +kernel
theorem dX4_whatIs_79 : decode M_X4_whatIs.2.1 79 = .ok (.goto 9, 3) := by decide +kernel
theorem dX4_whatIs_82 : decode M_X4_whatIs.2.1 82 = .ok (.aload_n 0, 1) := by decide +kernel
theorem dX4_whatIs_83 : decode M_X4_whatIs.2.1 83 = .ok (.getfield 7, 3) := by decide +kernel
theorem dX4_whatIs_86 : decode M_X4_whatIs.2.1 86 = .ok (.iload_n 2, 1) := by decide +kernel
theorem dX4_whatIs_87 : decode M_X4_whatIs.2.1 87 = .ok (.iaload, 1) := by decide +kernel
theorem dX4_whatIs_88 : decode M_X4_whatIs.2.1 88 = .ok (.iastore, 1) := by decide +kernel
theorem dX4_whatIs_89 : decode M_X4_whatIs.2.1 89 = .ok (.aload_n 0, 1) := by decide +kernel
theorem dX4_whatIs_90 : decode M_X4_whatIs.2.1 90 = .ok (.getfield 13, 3) := by decide +kernel
theorem dX4_whatIs_93 : decode M_X4_whatIs.2.1 93 = .ok (.iload_n 2, 1) := by decide +kernel
theorem dX4_whatIs_94 : decode M_X4_whatIs.2.1 94 = .ok (.iload_n 3, 1) := by decide +kernel
theorem dX4_whatIs_95 : decode M_X4_whatIs.2.1 95 = .ok (.iconst 1, 1) := by decide +kernel
theorem dX4_whatIs_96 : decode M_X4_whatIs.2.1 96 = .ok (.if_icmp .ne 8, 3) := by decide +kernel
theorem dX4_whatIs_99 : decode M_X4_whatIs.2.1 99 = .ok (.iload 6, 2) := by decide +kernel
theorem dX4_whatIs_101 : decode M_X4_whatIs.2.1 101 = .ok (.goto 9, 3) := by decide +kernel
theorem dX4_whatIs_104 : decode M_X4_whatIs.2.1 104 = .ok (.aload_n 0, 1) := by decide +kernel
theorem dX4_whatIs_105 : decode M_X4_whatIs.2.1 105 = .ok (.getfield 13, 3) := by decide +kernel
theorem dX4_whatIs_108 : decode M_X4_whatIs.2.1 108 = .ok (.iload_n 2, 1) := by decide +kernel
theorem dX4_whatIs_109 : decode M_X4_whatIs.2.1 109 = .ok (.iaload, 1) := by decide +kernel
theorem dX4_whatIs_110 : decode M_X4_whatIs.2.1 110 = .ok (.iastore, 1) := by decide +kernel
theorem dX4_whatIs_111 : decode M_X4_whatIs.2.1 111 = .ok (.iload 5, 2) := by decide +kernel
theorem dX4_whatIs_113 : decode M_X4_whatIs.2.1 113 = .ok (.aload_n 0, 1) := by decide +kernel
theorem dX4_whatIs_114 : decode M_X4_whatIs.2.1 114 = .ok (.iload_n 1, 1) := by decide +kernel
theorem dX4_whatIs_115 : decode M_X4_whatIs.2.1 115 = .ok (.iload_n 2, 1) := by decide +kernel
theorem dX4_whatIs_116 : decode M_X4_whatIs.2.1 116 = .ok (.iconst 0, 1) := by decide +kernel
theorem dX4_whatIs_117 : decode M_X4_whatIs.2.1 117 = .ok (.invokevirtual 337, 3) := by decide +kernel
theorem dX4_whatIs_120 : decode M_X4_whatIs.2.1 120 = .ok (.ifCond .eq 10, 3) := by decide +kernel
theorem dX4_whatIs_123 : decode M_X4_whatIs.2.1 123 = .ok (.iconst 1, 1) := by decide +kernel
theorem dX4_whatIs_124 : decode M_X4_whatIs.2.1 124 = .ok (.iload 6, 2) := by decide +kernel
theorem dX4_whatIs_126 : decode M_X4_whatIs.2.1 126 = .ok (.ishl, 1) := by decide +kernel
theorem dX4_whatIs_127 : decode M_X4_whatIs.2.1 127 = .ok (.goto 4, 3) := by decide +kernel
theorem dX4_whatIs_130 : decode M_X4_whatIs.2.1 130 = .ok (.iconst 0, 1) := by decide +kernel
theorem dX4_whatIs_131 : decode M_X4_whatIs.2.1 131 = .ok (.ior, 1) := by decide +kernel
theorem dX4_whatIs_132 : decode M_X4_whatIs.2.1 132 = .ok (.istore 5, 2) := by decide +kernel
theorem dX4_whatIs_134 : decode M_X4_whatIs.2.1 134 = .ok (.iinc 6 1, 3) := by decide +kernel
theorem dX4_whatIs_137 : decode M_X4_whatIs.2.1 137 = .ok (.goto (-85), 3) := by decide +kernel
theorem dX4_whatIs_140 : decode M_X4_whatIs.2.1 140 = .ok (.iload 5, 2) := by decide +kernel
theorem dX4_whatIs_142 : decode M_X4_whatIs.2.1 142 = .ok (.ireturn, 1) := by decide +kernel
theorem hv_X4_337 : a_okV RX4 M_X4_isPlaceRow 337 := ⟨a_in 1325 (by decide +kernel) rfl, a_in 1327 (by decide +kernel) rfl, a_in 68 (by decide +kernel) rfl⟩
def c_X4_whatIs_110 (a0 : Nat) (a1 : Int32) (a2 : Int32) (a3 : Int32) (k52 : Int32 → Int32 → aW → Option (Int32 × aW)) (b5 : Int32) (b6 : Int32) (s0 : Int32) (s1 : Int32) (s2 : Nat) (w : aW) : Option (Int32 × aW) :=
  (sA w s2 s1 s0).bind fun w16 =>
  cV 3 w16 a0 (bk (f_X4_isPlaceRow a0 a1 a2 (0 : Int32) w16) fun x18 w17 =>
  if x18 = (0 : Int32) then
    k52 (b5 ||| (0 : Int32)) (b6 + 1) w17
  else
    k52 (b5 ||| ((1 : Int32) <<< (b6 &&& 31))) (b6 + 1) w17)
theorem t_X4_whatIs_110 (a0 : Nat) (a1 : Int32) (a2 : Int32) (a3 : Int32) (k52 : Int32 → Int32 → aW → Option (Int32 × aW)) (hk52 : ∀ (b5 : Int32) (b6 : Int32) (w : aW), Ev rvI M_X4_whatIs 52 [some (.ref a0), some (.int a1), some (.int a2), some (.int a3), none, some (.int b5), some (.int b6)] [] w (k52 b5 b6 w)) (b5 : Int32) (b6 : Int32) (s0 : Int32) (s1 : Int32) (s2 : Nat) (w : aW) : Ev rvI M_X4_whatIs 110 [some (.ref a0), some (.int a1), some (.int a2), some (.int a3), none, some (.int b5), some (.int b6)] [.int s0, .int s1, .ref s2] w (c_X4_whatIs_110 a0 a1 a2 a3 k52 b5 b6 s0 s1 s2 w) := by
  unfold c_X4_whatIs_110
  refine e_iast (pc := 110) dX4_whatIs_110 (fun w16 => ?_)
  refine e_iload (pc := 111) dX4_whatIs_111 rfl ?_
  refine e_aload_n (pc := 113) dX4_whatIs_113 rfl rfl ?_
  refine e_iload_n (pc := 114) dX4_whatIs_114 rfl rfl ?_
  refine e_iload_n (pc := 115) dX4_whatIs_115 rfl rfl ?_
  refine e_iconst (pc := 116) dX4_whatIs_116 kc_0 ?_
  refine e_callV (pc := 117) (av := [.int a1, .int a2, .int (0 : Int32)]) (S := [.int b5]) (c0 := 3) rfl rfl ok_X4_isPlaceRow ⟨Nat.le_of_ble_eq_true rfl, Nat.le_of_ble_eq_true rfl⟩ hv_X4_337 dX4_whatIs_117 (s_X4_isPlaceRow a0 a1 a2 (0 : Int32) w16) rfl rfl (Nat.le_of_ble_eq_true rfl) (fun x18 w17 => ?_)
  refine e_if_eq (pc := 120) (tgt := 130) dX4_whatIs_120 (by decide) (fun _ => ?_) (fun _ => ?_)
  · refine e_iconst (pc := 130) dX4_whatIs_130 kc_0 ?_
    refine e_ior (pc := 131) dX4_whatIs_131 ?_
    refine e_istore (L' := [some (.ref a0), some (.int a1), some (.int a2), some (.int a3), none, some (.int (b5 ||| (0 : Int32))), some (.int b6)]) (pc := 132) dX4_whatIs_132 (by decide) rfl ?_
    refine e_iinc (L' := [some (.ref a0), some (.int a1), some (.int a2), some (.int a3), none, some (.int (b5 ||| (0 : Int32))), some (.int (b6 + 1))]) (pc := 134) (v := 1) dX4_whatIs_134 (by decide) rfl kc_1 rfl ?_
    refine e_goto (pc := 137) (tgt := 52) dX4_whatIs_137 (by decide) ?_
    exact hk52 (b5 ||| (0 : Int32)) (b6 + 1) w17
  · refine e_iconst (pc := 123) dX4_whatIs_123 kc_1 ?_
    refine e_iload (pc := 124) dX4_whatIs_124 rfl ?_
    refine e_ishl (pc := 126) dX4_whatIs_126 ?_
    refine e_goto (pc := 127) (tgt := 131) dX4_whatIs_127 (by decide) ?_
    refine e_ior (pc := 131) dX4_whatIs_131 ?_
    refine e_istore (L' := [some (.ref a0), some (.int a1), some (.int a2), some (.int a3), none, some (.int (b5 ||| ((1 : Int32) <<< (b6 &&& 31)))), some (.int b6)]) (pc := 132) dX4_whatIs_132 (by decide) rfl ?_
    refine e_iinc (L' := [some (.ref a0), some (.int a1), some (.int a2), some (.int a3), none, some (.int (b5 ||| ((1 : Int32) <<< (b6 &&& 31)))), some (.int (b6 + 1))]) (pc := 134) (v := 1) dX4_whatIs_134 (by decide) rfl kc_1 rfl ?_
    refine e_goto (pc := 137) (tgt := 52) dX4_whatIs_137 (by decide) ?_
    exact hk52 (b5 ||| ((1 : Int32) <<< (b6 &&& 31))) (b6 + 1) w17
def c_X4_whatIs_88 (a0 : Nat) (a1 : Int32) (a2 : Int32) (a3 : Int32) (k52 : Int32 → Int32 → aW → Option (Int32 × aW)) (b5 : Int32) (b6 : Int32) (s0 : Int32) (s1 : Int32) (s2 : Nat) (w : aW) : Option (Int32 × aW) :=
  (sA w s2 s1 s0).bind fun w12 =>
  (gR 3 w12 a0 2).bind fun r13 =>
  if ¬ a3 = (1 : Int32) then
    (gR 3 w12 a0 2).bind fun r14 =>
    (gA w12 r14 a2).bind fun x15 =>
    c_X4_whatIs_110 a0 a1 a2 a3 k52 b5 b6 x15 a2 r13 w12
  else
    c_X4_whatIs_110 a0 a1 a2 a3 k52 b5 b6 b6 a2 r13 w12
theorem t_X4_whatIs_88 (a0 : Nat) (a1 : Int32) (a2 : Int32) (a3 : Int32) (k52 : Int32 → Int32 → aW → Option (Int32 × aW)) (hk52 : ∀ (b5 : Int32) (b6 : Int32) (w : aW), Ev rvI M_X4_whatIs 52 [some (.ref a0), some (.int a1), some (.int a2), some (.int a3), none, some (.int b5), some (.int b6)] [] w (k52 b5 b6 w)) (b5 : Int32) (b6 : Int32) (s0 : Int32) (s1 : Int32) (s2 : Nat) (w : aW) : Ev rvI M_X4_whatIs 88 [some (.ref a0), some (.int a1), some (.int a2), some (.int a3), none, some (.int b5), some (.int b6)] [.int s0, .int s1, .ref s2] w (c_X4_whatIs_88 a0 a1 a2 a3 k52 b5 b6 s0 s1 s2 w) := by
  unfold c_X4_whatIs_88
  refine e_iast (pc := 88) dX4_whatIs_88 (fun w12 => ?_)
  refine e_aload_n (pc := 89) dX4_whatIs_89 rfl rfl ?_
  refine e_getR (pc := 90) dX4_whatIs_90 hs_X4_13 (fun r13 => ?_)
  refine e_iload_n (pc := 93) dX4_whatIs_93 rfl rfl ?_
  refine e_iload_n (pc := 94) dX4_whatIs_94 rfl rfl ?_
  refine e_iconst (pc := 95) dX4_whatIs_95 kc_1 ?_
  refine e_icmp_ne (pc := 96) (tgt := 104) dX4_whatIs_96 (by decide) (fun _ => ?_) (fun _ => ?_)
  · refine e_aload_n (pc := 104) dX4_whatIs_104 rfl rfl ?_
    refine e_getR (pc := 105) dX4_whatIs_105 hs_X4_13 (fun r14 => ?_)
    refine e_iload_n (pc := 108) dX4_whatIs_108 rfl rfl ?_
    refine e_iald (pc := 109) dX4_whatIs_109 (fun x15 => ?_)
    exact t_X4_whatIs_110 a0 a1 a2 a3 k52 hk52 b5 b6 x15 a2 r13 w12
  · refine e_iload (pc := 99) dX4_whatIs_99 rfl ?_
    refine e_goto (pc := 101) (tgt := 110) dX4_whatIs_101 (by decide) ?_
    exact t_X4_whatIs_110 a0 a1 a2 a3 k52 hk52 b5 b6 b6 a2 r13 w12
def c_X4_whatIs_65 (a0 : Nat) (a1 : Int32) (a2 : Int32) (a3 : Int32) (k52 : Int32 → Int32 → aW → Option (Int32 × aW)) (b5 : Int32) (b6 : Int32) (s0 : Int32) (s1 : Int32) (w : aW) : Option (Int32 × aW) :=
  if s0 ≤ s1 then
    some (b5, w)
  else
    (gR 3 w a0 1).bind fun r9 =>
    if ¬ a3 = (0 : Int32) then
      (gR 3 w a0 1).bind fun r10 =>
      (gA w r10 a2).bind fun x11 =>
      c_X4_whatIs_88 a0 a1 a2 a3 k52 b5 b6 x11 a2 r9 w
    else
      c_X4_whatIs_88 a0 a1 a2 a3 k52 b5 b6 b6 a2 r9 w
theorem t_X4_whatIs_65 (a0 : Nat) (a1 : Int32) (a2 : Int32) (a3 : Int32) (k52 : Int32 → Int32 → aW → Option (Int32 × aW)) (hk52 : ∀ (b5 : Int32) (b6 : Int32) (w : aW), Ev rvI M_X4_whatIs 52 [some (.ref a0), some (.int a1), some (.int a2), some (.int a3), none, some (.int b5), some (.int b6)] [] w (k52 b5 b6 w)) (b5 : Int32) (b6 : Int32) (s0 : Int32) (s1 : Int32) (w : aW) : Ev rvI M_X4_whatIs 65 [some (.ref a0), some (.int a1), some (.int a2), some (.int a3), none, some (.int b5), some (.int b6)] [.int s0, .int s1] w (c_X4_whatIs_65 a0 a1 a2 a3 k52 b5 b6 s0 s1 w) := by
  unfold c_X4_whatIs_65
  refine e_icmp_ge (pc := 65) (tgt := 140) dX4_whatIs_65 (by decide) (fun _ => ?_) (fun _ => ?_)
  · refine e_iload (pc := 140) dX4_whatIs_140 rfl ?_
    exact e_iret (pc := 142) dX4_whatIs_142 rfl rfl
  · refine e_aload_n (pc := 68) dX4_whatIs_68 rfl rfl ?_
    refine e_getR (pc := 69) dX4_whatIs_69 hs_X4_7 (fun r9 => ?_)
    refine e_iload_n (pc := 72) dX4_whatIs_72 rfl rfl ?_
    refine e_iload_n (pc := 73) dX4_whatIs_73 rfl rfl ?_
    refine e_if_ne (pc := 74) (tgt := 82) dX4_whatIs_74 (by decide) (fun _ => ?_) (fun _ => ?_)
    · refine e_aload_n (pc := 82) dX4_whatIs_82 rfl rfl ?_
      refine e_getR (pc := 83) dX4_whatIs_83 hs_X4_7 (fun r10 => ?_)
      refine e_iload_n (pc := 86) dX4_whatIs_86 rfl rfl ?_
      refine e_iald (pc := 87) dX4_whatIs_87 (fun x11 => ?_)
      exact t_X4_whatIs_88 a0 a1 a2 a3 k52 hk52 b5 b6 x11 a2 r9 w
    · refine e_iload (pc := 77) dX4_whatIs_77 rfl ?_
      refine e_goto (pc := 79) (tgt := 88) dX4_whatIs_79 (by decide) ?_
      exact t_X4_whatIs_88 a0 a1 a2 a3 k52 hk52 b5 b6 b6 a2 r9 w
def c_X4_whatIs_52 (a0 : Nat) (a1 : Int32) (a2 : Int32) (a3 : Int32) (k52 : Int32 → Int32 → aW → Option (Int32 × aW)) (b5 : Int32) (b6 : Int32) (w : aW) : Option (Int32 × aW) :=
  if ¬ a3 = (0 : Int32) then
    c_X4_whatIs_65 a0 a1 a2 a3 k52 b5 b6 (10 : Int32) b6 w
  else
    c_X4_whatIs_65 a0 a1 a2 a3 k52 b5 b6 (8 : Int32) b6 w
theorem t_X4_whatIs_52 (a0 : Nat) (a1 : Int32) (a2 : Int32) (a3 : Int32) (k52 : Int32 → Int32 → aW → Option (Int32 × aW)) (hk52 : ∀ (b5 : Int32) (b6 : Int32) (w : aW), Ev rvI M_X4_whatIs 52 [some (.ref a0), some (.int a1), some (.int a2), some (.int a3), none, some (.int b5), some (.int b6)] [] w (k52 b5 b6 w)) (b5 : Int32) (b6 : Int32) (w : aW) : Ev rvI M_X4_whatIs 52 [some (.ref a0), some (.int a1), some (.int a2), some (.int a3), none, some (.int b5), some (.int b6)] [] w (c_X4_whatIs_52 a0 a1 a2 a3 k52 b5 b6 w) := by
  unfold c_X4_whatIs_52
  refine e_iload (pc := 52) dX4_whatIs_52 rfl ?_
  refine e_iload_n (pc := 54) dX4_whatIs_54 rfl rfl ?_
  refine e_if_ne (pc := 55) (tgt := 63) dX4_whatIs_55 (by decide) (fun _ => ?_) (fun _ => ?_)
  · refine e_bipush (pc := 63) dX4_whatIs_63 kb_10 ?_
    exact t_X4_whatIs_65 a0 a1 a2 a3 k52 hk52 b5 b6 (10 : Int32) b6 w
  · refine e_bipush (pc := 58) dX4_whatIs_58 kb_8 ?_
    refine e_goto (pc := 60) (tgt := 65) dX4_whatIs_60 (by decide) ?_
    exact t_X4_whatIs_65 a0 a1 a2 a3 k52 hk52 b5 b6 (8 : Int32) b6 w
def c_X4_whatIs_32 (a0 : Nat) (a1 : Int32) (a2 : Int32) (a3 : Int32) (s0 : Int32) (w : aW) : Option (Int32 × aW) :=
  if (0 : Int32) ≤ s0 then
    cV 3 w a0 (bk (f_X4_think a0 w) fun _ w8 =>
    loop3 (c_X4_whatIs_52 a0 a1 a2 a3) a_fuel (0 : Int32) (0 : Int32) w8)
  else
    some (s0, w)
theorem t_X4_whatIs_32 (a0 : Nat) (a1 : Int32) (a2 : Int32) (a3 : Int32) (s0 : Int32) (w : aW) : Ev rvI M_X4_whatIs 32 [some (.ref a0), some (.int a1), some (.int a2), some (.int a3), none, none, none] [.int s0] w (c_X4_whatIs_32 a0 a1 a2 a3 s0 w) := by
  unfold c_X4_whatIs_32
  refine e_istore (L' := [some (.ref a0), some (.int a1), some (.int a2), some (.int a3), some (.int s0), none, none]) (pc := 32) dX4_whatIs_32 (by decide) rfl ?_
  refine e_iload (pc := 34) dX4_whatIs_34 rfl ?_
  refine e_if_ge (pc := 36) (tgt := 42) dX4_whatIs_36 (by decide) (fun _ => ?_) (fun _ => ?_)
  · refine e_iconst (pc := 42) dX4_whatIs_42 kc_0 ?_
    refine e_istore (L' := [some (.ref a0), some (.int a1), some (.int a2), some (.int a3), some (.int s0), some (.int (0 : Int32)), none]) (pc := 43) dX4_whatIs_43 (by decide) rfl ?_
    refine e_aload_n (pc := 45) dX4_whatIs_45 rfl rfl ?_
    refine e_callV (pc := 46) (av := []) (S := []) (c0 := 3) rfl rfl ok_X4_think ⟨Nat.le_of_ble_eq_true rfl, Nat.le_of_ble_eq_true rfl⟩ hv_X4_221 dX4_whatIs_46 (s_X4_think a0 w) rfl rfl (Nat.le_of_ble_eq_true rfl) (fun _ w8 => ?_)
    refine e_iconst (pc := 49) dX4_whatIs_49 kc_0 ?_
    refine e_istore (L' := [some (.ref a0), some (.int a1), some (.int a2), some (.int a3), some (.int s0), some (.int (0 : Int32)), some (.int (0 : Int32))]) (pc := 50) dX4_whatIs_50 (by decide) rfl ?_
    refine e_forget (L2 := [some (.ref a0), some (.int a1), some (.int a2), some (.int a3), none, some (.int (0 : Int32)), some (.int (0 : Int32))]) (And.intro rfl (And.intro rfl (And.intro rfl (And.intro rfl (And.intro rfl (And.intro rfl trivial)))))) ?_
    exact e_loop3 (L := fun b5 b6 => [some (.ref a0), some (.int a1), some (.int a2), some (.int a3), none, some (.int b5), some (.int b6)]) (S := fun b5 b6 => []) (fun kf hkf => t_X4_whatIs_52 a0 a1 a2 a3  kf hkf) _ (0 : Int32) (0 : Int32) w8
  · refine e_iload (pc := 39) dX4_whatIs_39 rfl ?_
    exact e_iret (pc := 41) dX4_whatIs_41 rfl rfl
def f_X4_whatIs (a0 : Nat) (a1 : Int32) (a2 : Int32) (a3 : Int32) (w : aW) : Option (Int32 × aW) :=
  (sF 3 w a0 19 (.int (0 : Int32))).bind fun w1 =>
  cV 3 w1 a0 (bk (f_X4_isBeast a0 a2 w1) fun x3 w2 =>
  if x3 = (0 : Int32) then
    c_X4_whatIs_32 a0 a1 a2 a3 (-1 : Int32) w2
  else
    bk (f_X4_in a3.toInt64 (0 : Int64) (1 : Int64) w2) fun x5 w4 =>
    if x5 = (0 : Int32) then
      c_X4_whatIs_32 a0 a1 a2 a3 (-1 : Int32) w4
    else
      cV 3 w4 a0 (bk (f_X4_wrongRow a0 a1 w4) fun x7 w6 =>
      c_X4_whatIs_32 a0 a1 a2 a3 x7 w6))
theorem s_X4_whatIs (a0 : Nat) (a1 : Int32) (a2 : Int32) (a3 : Int32) (w : aW) : Sp rvI M_X4_whatIs [.ref a0, .int a1, .int a2, .int a3] w (f_X4_whatIs a0 a1 a2 a3 w) := by
  refine e_entry [some (.ref a0), some (.int a1), some (.int a2), some (.int a3), none, none, none] (by decide +kernel) (Nat.le_of_ble_eq_true rfl) (fun _ => rfl) ?_
  unfold f_X4_whatIs
  refine e_aload_n (pc := 0) dX4_whatIs_0 rfl rfl ?_
  refine e_iconst (pc := 1) dX4_whatIs_1 kc_0 ?_
  refine e_put (pc := 2) dX4_whatIs_2 hw_X4_80 (fun _ => rfl) (fun _ => rfl) (fun w1 => ?_)
  refine e_aload_n (pc := 5) dX4_whatIs_5 rfl rfl ?_
  refine e_iload_n (pc := 6) dX4_whatIs_6 rfl rfl ?_
  refine e_callV (pc := 7) (av := [.int a2]) (S := []) (c0 := 3) rfl rfl ok_X4_isBeast ⟨Nat.le_of_ble_eq_true rfl, Nat.le_of_ble_eq_true rfl⟩ hv_X4_185 dX4_whatIs_7 (s_X4_isBeast a0 a2 w1) rfl rfl (Nat.le_of_ble_eq_true rfl) (fun x3 w2 => ?_)
  refine e_if_eq (pc := 10) (tgt := 31) dX4_whatIs_10 (by decide) (fun _ => ?_) (fun _ => ?_)
  · refine e_iconst (pc := 31) dX4_whatIs_31 kc_m1 ?_
    exact t_X4_whatIs_32 a0 a1 a2 a3 (-1 : Int32) w2
  · refine e_iload_n (pc := 13) dX4_whatIs_13 rfl rfl ?_
    refine e_i2l (pc := 14) dX4_whatIs_14 ?_
    refine e_lconst (pc := 15) (v := 0) dX4_whatIs_15 (by decide) ?_
    refine e_lconst (pc := 16) (v := 1) dX4_whatIs_16 (by decide) ?_
    refine e_callS (pc := 17) (av := [.long a3.toInt64, .long (0 : Int64), .long (1 : Int64)]) (S := []) ok_X4_in ⟨Nat.le_of_ble_eq_true rfl, Nat.le_of_ble_eq_true rfl⟩ ht_X4_86 dX4_whatIs_17 (s_X4_in a3.toInt64 (0 : Int64) (1 : Int64) w2) rfl rfl (Nat.le_of_ble_eq_true rfl) (fun x5 w4 => ?_)
    refine e_if_eq (pc := 20) (tgt := 31) dX4_whatIs_20 (by decide) (fun _ => ?_) (fun _ => ?_)
    · refine e_iconst (pc := 31) dX4_whatIs_31 kc_m1 ?_
      exact t_X4_whatIs_32 a0 a1 a2 a3 (-1 : Int32) w4
    · refine e_aload_n (pc := 23) dX4_whatIs_23 rfl rfl ?_
      refine e_iload_n (pc := 24) dX4_whatIs_24 rfl rfl ?_
      refine e_callV (pc := 25) (av := [.int a1]) (S := []) (c0 := 3) rfl rfl ok_X4_wrongRow ⟨Nat.le_of_ble_eq_true rfl, Nat.le_of_ble_eq_true rfl⟩ hv_X4_215 dX4_whatIs_25 (s_X4_wrongRow a0 a1 w4) rfl rfl (Nat.le_of_ble_eq_true rfl) (fun x7 w6 => ?_)
      refine e_goto (pc := 28) (tgt := 32) dX4_whatIs_28 (by decide) ?_
      exact t_X4_whatIs_32 a0 a1 a2 a3 x7 w6
def M_X4_wrongLiving : aM := (yX4_wrongLiving, cX4_wrongLiving, 3, (some .int), 2, 46)
theorem ok_X4_wrongLiving : a_okM M_X4_wrongLiving 2 := ⟨⟨by decide +kernel, by decide +kernel⟩, by decide +kernel, a_in 1346 (by decide +kernel) rfl, a_in 79 (by decide +kernel) rfl⟩
theorem dX4_wrongLiving_0 : decode M_X4_wrongLiving.2.1 0 = .ok (.aload_n 0, 1) := by decide +kernel
theorem dX4_wrongLiving_1 : decode M_X4_wrongLiving.2.1 1 = .ok (.iload_n 2, 1) := by decide +kernel
theorem dX4_wrongLiving_2 : decode M_X4_wrongLiving.2.1 2 = .ok (.invokevirtual 185, 3) := by decide +kernel
theorem dX4_wrongLiving_5 : decode M_X4_wrongLiving.2.1 5 = .ok (.ifCond .eq 15, 3) := by decide +kernel
theorem dX4_wrongLiving_8 : decode M_X4_wrongLiving.2.1 8 = .ok (.iload_n 1, 1) := by decide +kernel
theorem dX4_wrongLiving_9 : decode M_X4_wrongLiving.2.1 9 = .ok (.i2l, 1) := by decide +kernel
theorem dX4_wrongLiving_10 : decode M_X4_wrongLiving.2.1 10 = .ok (.lconst 0, 1) := by decide +kernel
theorem dX4_wrongLiving_11 : decode M_X4_wrongLiving.2.1 11 = .ok (.ldc2_w 262, 3) := by decide +kernel
theorem dX4_wrongLiving_14 : decode M_X4_wrongLiving.2.1 14 = .ok (.invokestatic 86, 3) := by decide +kernel
theorem dX4_wrongLiving_17 : decode M_X4_wrongLiving.2.1 17 = .ok (.ifCond .ne 5, 3) := by decide +kernel
theorem dX4_wrongLiving_20 : decode M_X4_wrongLiving.2.1 20 = .ok (.iconst (-1), 1) := by decide +kernel
theorem dX4_wrongLiving_21 : decode M_X4_wrongLiving.2.1 21 = .ok (.ireturn, 1) := by decide +kernel
theorem dX4_wrongLiving_22 : decode M_X4_wrongLiving.2.1 22 = .ok (.aload_n 0, 1) := by decide +kernel
theorem dX4_wrongLiving_23 : decode M_X4_wrongLiving.2.1 23 = .ok (.getfield 107, 3) := by decide +kernel
theorem dX4_wrongLiving_26 : decode M_X4_wrongLiving.2.1 26 = .ok (.iload_n 2, 1) := by decide +kernel
theorem dX4_wrongLiving_27 : decode M_X4_wrongLiving.2.1 27 = .ok (.invokestatic 110, 3) := by decide +kernel
theorem dX4_wrongLiving_30 : decode M_X4_wrongLiving.2.1 30 = .ok (.ifCond .eq 11, 3) := by decide +kernel
theorem dX4_wrongLiving_33 : decode M_X4_wrongLiving.2.1 33 = .ok (.aload_n 0, 1) := by decide +kernel
theorem dX4_wrongLiving_34 : decode M_X4_wrongLiving.2.1 34 = .ok (.iload_n 1, 1) := by decide +kernel
theorem dX4_wrongLiving_35 : decode M_X4_wrongLiving.2.1 35 = .ok (.invokevirtual 215, 3) := by decide +kernel
theorem dX4_wrongLiving_38 : decode M_X4_wrongLiving.2.1 38 = .ok (.goto 5, 3) := by decide +kernel
theorem dX4_wrongLiving_41 : decode M_X4_wrongLiving.2.1 41 = .ok (.bipush (-3), 2) := by decide +kernel
theorem dX4_wrongLiving_43 : decode M_X4_wrongLiving.2.1 43 = .ok (.ireturn, 1) := by decide +kernel
def f_X4_wrongLiving (a0 : Nat) (a1 : Int32) (a2 : Int32) (w : aW) : Option (Int32 × aW) :=
  cV 3 w a0 (bk (f_X4_isBeast a0 a2 w) fun x2 w1 =>
  if x2 = (0 : Int32) then
    some ((-1 : Int32), w1)
  else
    bk (f_X4_in a1.toInt64 (0 : Int64) (7 : Int64) w1) fun x4 w3 =>
    if ¬ x4 = (0 : Int32) then
      (gI 3 w3 a0 6).bind fun x5 =>
      bk (f_X4_hasBit x5 a2 w3) fun x7 w6 =>
      if x7 = (0 : Int32) then
        some ((-3 : Int32), w6)
      else
        cV 3 w6 a0 (bk (f_X4_wrongRow a0 a1 w6) fun x9 w8 =>
        some (x9, w8))
    else
      some ((-1 : Int32), w3))
theorem s_X4_wrongLiving (a0 : Nat) (a1 : Int32) (a2 : Int32) (w : aW) : Sp rvI M_X4_wrongLiving [.ref a0, .int a1, .int a2] w (f_X4_wrongLiving a0 a1 a2 w) := by
  refine e_entry [some (.ref a0), some (.int a1), some (.int a2)] (by decide +kernel) (Nat.le_of_ble_eq_true rfl) (fun _ => rfl) ?_
  unfold f_X4_wrongLiving
  refine e_aload_n (pc := 0) dX4_wrongLiving_0 rfl rfl ?_
  refine e_iload_n (pc := 1) dX4_wrongLiving_1 rfl rfl ?_
  refine e_callV (pc := 2) (av := [.int a2]) (S := []) (c0 := 3) rfl rfl ok_X4_isBeast ⟨Nat.le_of_ble_eq_true rfl, Nat.le_of_ble_eq_true rfl⟩ hv_X4_185 dX4_wrongLiving_2 (s_X4_isBeast a0 a2 w) rfl rfl (Nat.le_of_ble_eq_true rfl) (fun x2 w1 => ?_)
  refine e_if_eq (pc := 5) (tgt := 20) dX4_wrongLiving_5 (by decide) (fun _ => ?_) (fun _ => ?_)
  · refine e_iconst (pc := 20) dX4_wrongLiving_20 kc_m1 ?_
    exact e_iret (pc := 21) dX4_wrongLiving_21 rfl rfl
  · refine e_iload_n (pc := 8) dX4_wrongLiving_8 rfl rfl ?_
    refine e_i2l (pc := 9) dX4_wrongLiving_9 ?_
    refine e_lconst (pc := 10) (v := 0) dX4_wrongLiving_10 (by decide) ?_
    refine e_ldc2 (pc := 11) (v := 7) dX4_wrongLiving_11 (a_in 990 (by decide +kernel) rfl) ?_
    refine e_callS (pc := 14) (av := [.long a1.toInt64, .long (0 : Int64), .long (7 : Int64)]) (S := []) ok_X4_in ⟨Nat.le_of_ble_eq_true rfl, Nat.le_of_ble_eq_true rfl⟩ ht_X4_86 dX4_wrongLiving_14 (s_X4_in a1.toInt64 (0 : Int64) (7 : Int64) w1) rfl rfl (Nat.le_of_ble_eq_true rfl) (fun x4 w3 => ?_)
    refine e_if_ne (pc := 17) (tgt := 22) dX4_wrongLiving_17 (by decide) (fun _ => ?_) (fun _ => ?_)
    · refine e_aload_n (pc := 22) dX4_wrongLiving_22 rfl rfl ?_
      refine e_getI (pc := 23) dX4_wrongLiving_23 hs_X4_107 (fun x5 => ?_)
      refine e_iload_n (pc := 26) dX4_wrongLiving_26 rfl rfl ?_
      refine e_callS (pc := 27) (av := [.int x5, .int a2]) (S := []) ok_X4_hasBit ⟨Nat.le_of_ble_eq_true rfl, Nat.le_of_ble_eq_true rfl⟩ ht_X4_110 dX4_wrongLiving_27 (s_X4_hasBit x5 a2 w3) rfl rfl (Nat.le_of_ble_eq_true rfl) (fun x7 w6 => ?_)
      refine e_if_eq (pc := 30) (tgt := 41) dX4_wrongLiving_30 (by decide) (fun _ => ?_) (fun _ => ?_)
      · refine e_bipush (pc := 41) dX4_wrongLiving_41 kb_m3 ?_
        exact e_iret (pc := 43) dX4_wrongLiving_43 rfl rfl
      · refine e_aload_n (pc := 33) dX4_wrongLiving_33 rfl rfl ?_
        refine e_iload_n (pc := 34) dX4_wrongLiving_34 rfl rfl ?_
        refine e_callV (pc := 35) (av := [.int a1]) (S := []) (c0 := 3) rfl rfl ok_X4_wrongRow ⟨Nat.le_of_ble_eq_true rfl, Nat.le_of_ble_eq_true rfl⟩ hv_X4_215 dX4_wrongLiving_35 (s_X4_wrongRow a0 a1 w6) rfl rfl (Nat.le_of_ble_eq_true rfl) (fun x9 w8 => ?_)
        refine e_goto (pc := 38) (tgt := 43) dX4_wrongLiving_38 (by decide) ?_
        exact e_iret (pc := 43) dX4_wrongLiving_43 rfl rfl
    · refine e_iconst (pc := 20) dX4_wrongLiving_20 kc_m1 ?_
      exact e_iret (pc := 21) dX4_wrongLiving_21 rfl rfl
def M_X4_whereFrom : aM := (yX4_whereFrom, cX4_whereFrom, 6, (some .int), 7, 160)
theorem ok_X4_whereFrom : a_okM M_X4_whereFrom 2 := ⟨⟨by decide +kernel, by decide +kernel⟩, by decide +kernel, a_in 1342 (by decide +kernel) rfl, a_in 79 (by decide +kernel) rfl⟩
theorem dX4_whereFrom_0 : decode M_X4_whereFrom.2.1 0 = .ok (.aload_n 0, 1) := by decide +kernel
theorem dX4_whereFrom_1 : decode M_X4_whereFrom.2.1 1 = .ok (.iconst 0, 1) := by decide +kernel
theorem dX4_whereFrom_2 : decode M_X4_whereFrom.2.1 2 = .ok (.putfield 80, 3) := by decide +kernel
theorem dX4_whereFrom_5 : decode M_X4_whereFrom.2.1 5 = .ok (.aload_n 0, 1) := by decide +kernel
theorem dX4_whereFrom_6 : decode M_X4_whereFrom.2.1 6 = .ok (.iload_n 1, 1) := by decide +kernel
theorem dX4_whereFrom_7 : decode M_X4_whereFrom.2.1 7 = .ok (.iload_n 2, 1) := by decide +kernel
theorem dX4_whereFrom_8 : decode M_X4_whereFrom.2.1 8 = .ok (.invokevirtual 340, 3) := by decide +kernel
theorem dX4_whereFrom_11 : decode M_X4_whereFrom.2.1 11 = .ok (.istore_n 3, 1) := by decide +kernel
theorem dX4_whereFrom_12 : decode M_X4_whereFrom.2.1 12 = .ok (.iload_n 3, 1) := by decide +kernel
theorem dX4_whereFrom_13 : decode M_X4_whereFrom.2.1 13 = .ok (.ifCond .ge 5, 3) := by decide +kernel
theorem dX4_whereFrom_16 : decode M_X4_whereFrom.2.1 16 = .ok (.iload_n 3, 1) := by decide +kernel
theorem dX4_whereFrom_17 : decode M_X4_whereFrom.2.1 17 = .ok (.ireturn, 1) := by decide +kernel
theorem dX4_whereFrom_18 : decode M_X4_whereFrom.2.1 18 = .ok (.iconst 0, 1) := by decide +kernel
theorem dX4_whereFrom_19 : decode M_X4_whereFrom.2.1 19 = .ok (.istore 4, 2) := by decide +kernel
theorem dX4_whereFrom_21 : decode M_X4_whereFrom.2.1 21 = .ok (.aload_n 0, 1) := by decide +kernel
theorem dX4_whereFrom_22 : decode M_X4_whereFrom.2.1 22 = .ok (.invokevirtual 221, 3) := by decide +kernel
theorem dX4_whereFrom_25 : decode M_X4_whereFrom.2.1 25 = .ok (.iconst 0, 1) := by decide +kernel
theorem dX4_whereFrom_26 : decode M_X4_whereFrom.2.1 26 = .ok (.istore 5, 2) := by decide +kernel
theorem dX4_whereFrom_28 : decode M_X4_whereFrom.2.1 28 = .ok (.iload 5, 2) := by decide +kernel
theorem dX4_whereFrom_30 : decode M_X4_whereFrom.2.1 30 = .ok (.bipush 16, 2) := by decide +kernel
theorem dX4_whereFrom_32 : decode M_X4_whereFrom.2.1 32 = .ok (.if_icmp .ge 40, 3) := by decide +kernel
theorem dX4_whereFrom_35 : decode M_X4_whereFrom.2.1 35 = .ok (.aload_n 0, 1) := by decide +kernel
theorem dX4_whereFrom_36 : decode M_X4_whereFrom.2.1 36 = .ok (.getfield 16, 3) := by decide +kernel
theorem dX4_whereFrom_39 : decode M_X4_whereFrom.2.1 39 = .ok (.iload_n 2, 1) := by decide +kernel
theorem dX4_whereFrom_40 : decode M_X4_whereFrom.2.1 40 = .ok (.iload 5, 2) := by decide +kernel
theorem dX4_whereFrom_42 : decode M_X4_whereFrom.2.1 42 = .ok (.iastore, 1) := by decide +kernel
theorem dX4_whereFrom_43 : decode M_X4_whereFrom.2.1 43 = .ok (.iload 4, 2) := by decide +kernel
theorem dX4_whereFrom_45 : decode M_X4_whereFrom.2.1 45 = .ok (.aload_n 0, 1) := by decide +kernel
theorem dX4_whereFrom_46 : decode M_X4_whereFrom.2.1 46 = .ok (.iload_n 1, 1) := by decide +kernel
theorem dX4_whereFrom_47 : decode M_X4_whereFrom.2.1 47 = .ok (.iload_n 2, 1) := by decide +kernel
theorem dX4_whereFrom_48 : decode M_X4_whereFrom.2.1 48 = .ok (.iconst 1, 1) := by decide +kernel
theorem dX4_whereFrom_49 : decode M_X4_whereFrom.2.1 49 = .ok (.invokevirtual 337, 3) := by decide +kernel
theorem dX4_whereFrom_52 : decode M_X4_whereFrom.2.1 52 = .ok (.ifCond .eq 10, 3) := by decide +kernel
theorem dX4_whereFrom_55 : decode M_X4_whereFrom.2.1 55 = .ok (.iconst 1, 1) := by decide +kernel
theorem dX4_whereFrom_56 : decode M_X4_whereFrom.2.1 56 = .ok (.iload 5, 2) := by decide +kernel
theorem dX4_whereFrom_58 : decode M_X4_whereFrom.2.1 58 = .ok (.ishl, 1) := by decide +kernel
theorem dX4_whereFrom_59 : decode M_X4_whereFrom.2.1 59 = .ok (.goto 4, 3) := by decide +kernel
theorem dX4_whereFrom_62 : decode M_X4_whereFrom.2.1 62 = .ok (.iconst 0, 1) := by decide +kernel
theorem dX4_whereFrom_63 : decode M_X4_whereFrom.2.1 63 = .ok (.ior, 1) := by decide +kernel
theorem dX4_whereFrom_64 : decode M_X4_whereFrom.2.1 64 = .ok (.istore 4, 2) := by decide +kernel
theorem dX4_whereFrom_66 : decode M_X4_whereFrom.2.1 66 = .ok (.iinc 5 1, 3) := by decide +kernel
theorem dX4_whereFrom_69 : decode M_X4_whereFrom.2.1 69 = .ok (.goto (-41), 3) := by decide +kernel
theorem dX4_whereFrom_72 : decode M_X4_whereFrom.2.1 72 = .ok (.iload 4, 2) := by decide +kernel
theorem dX4_whereFrom_74 : decode M_X4_whereFrom.2.1 74 = .ok (.ireturn, 1) := by decide +kernel
theorem hv_X4_340 : a_okV RX4 M_X4_wrongLiving 340 := ⟨a_in 1343 (by decide +kernel) rfl, a_in 1345 (by decide +kernel) rfl, a_in 70 (by decide +kernel) rfl⟩
def c_X4_whereFrom_28 (a0 : Nat) (a1 : Int32) (a2 : Int32) (k28 : Int32 → Int32 → aW → Option (Int32 × aW)) (b4 : Int32) (b5 : Int32) (w : aW) : Option (Int32 × aW) :=
  if (16 : Int32) ≤ b5 then
    some (b4, w)
  else
    (gR 3 w a0 3).bind fun r5 =>
    (sA w r5 a2 b5).bind fun w6 =>
    cV 3 w6 a0 (bk (f_X4_isPlaceRow a0 a1 a2 (1 : Int32) w6) fun x8 w7 =>
    if x8 = (0 : Int32) then
      k28 (b4 ||| (0 : Int32)) (b5 + 1) w7
    else
      k28 (b4 ||| ((1 : Int32) <<< (b5 &&& 31))) (b5 + 1) w7)
theorem t_X4_whereFrom_28 (a0 : Nat) (a1 : Int32) (a2 : Int32) (k28 : Int32 → Int32 → aW → Option (Int32 × aW)) (hk28 : ∀ (b4 : Int32) (b5 : Int32) (w : aW), Ev rvI M_X4_whereFrom 28 [some (.ref a0), some (.int a1), some (.int a2), none, some (.int b4), some (.int b5)] [] w (k28 b4 b5 w)) (b4 : Int32) (b5 : Int32) (w : aW) : Ev rvI M_X4_whereFrom 28 [some (.ref a0), some (.int a1), some (.int a2), none, some (.int b4), some (.int b5)] [] w (c_X4_whereFrom_28 a0 a1 a2 k28 b4 b5 w) := by
  unfold c_X4_whereFrom_28
  refine e_iload (pc := 28) dX4_whereFrom_28 rfl ?_
  refine e_bipush (pc := 30) dX4_whereFrom_30 kb_16 ?_
  refine e_icmp_ge (pc := 32) (tgt := 72) dX4_whereFrom_32 (by decide) (fun _ => ?_) (fun _ => ?_)
  · refine e_iload (pc := 72) dX4_whereFrom_72 rfl ?_
    exact e_iret (pc := 74) dX4_whereFrom_74 rfl rfl
  · refine e_aload_n (pc := 35) dX4_whereFrom_35 rfl rfl ?_
    refine e_getR (pc := 36) dX4_whereFrom_36 hs_X4_16 (fun r5 => ?_)
    refine e_iload_n (pc := 39) dX4_whereFrom_39 rfl rfl ?_
    refine e_iload (pc := 40) dX4_whereFrom_40 rfl ?_
    refine e_iast (pc := 42) dX4_whereFrom_42 (fun w6 => ?_)
    refine e_iload (pc := 43) dX4_whereFrom_43 rfl ?_
    refine e_aload_n (pc := 45) dX4_whereFrom_45 rfl rfl ?_
    refine e_iload_n (pc := 46) dX4_whereFrom_46 rfl rfl ?_
    refine e_iload_n (pc := 47) dX4_whereFrom_47 rfl rfl ?_
    refine e_iconst (pc := 48) dX4_whereFrom_48 kc_1 ?_
    refine e_callV (pc := 49) (av := [.int a1, .int a2, .int (1 : Int32)]) (S := [.int b4]) (c0 := 3) rfl rfl ok_X4_isPlaceRow ⟨Nat.le_of_ble_eq_true rfl, Nat.le_of_ble_eq_true rfl⟩ hv_X4_337 dX4_whereFrom_49 (s_X4_isPlaceRow a0 a1 a2 (1 : Int32) w6) rfl rfl (Nat.le_of_ble_eq_true rfl) (fun x8 w7 => ?_)
    refine e_if_eq (pc := 52) (tgt := 62) dX4_whereFrom_52 (by decide) (fun _ => ?_) (fun _ => ?_)
    · refine e_iconst (pc := 62) dX4_whereFrom_62 kc_0 ?_
      refine e_ior (pc := 63) dX4_whereFrom_63 ?_
      refine e_istore (L' := [some (.ref a0), some (.int a1), some (.int a2), none, some (.int (b4 ||| (0 : Int32))), some (.int b5)]) (pc := 64) dX4_whereFrom_64 (by decide) rfl ?_
      refine e_iinc (L' := [some (.ref a0), some (.int a1), some (.int a2), none, some (.int (b4 ||| (0 : Int32))), some (.int (b5 + 1))]) (pc := 66) (v := 1) dX4_whereFrom_66 (by decide) rfl kc_1 rfl ?_
      refine e_goto (pc := 69) (tgt := 28) dX4_whereFrom_69 (by decide) ?_
      exact hk28 (b4 ||| (0 : Int32)) (b5 + 1) w7
    · refine e_iconst (pc := 55) dX4_whereFrom_55 kc_1 ?_
      refine e_iload (pc := 56) dX4_whereFrom_56 rfl ?_
      refine e_ishl (pc := 58) dX4_whereFrom_58 ?_
      refine e_goto (pc := 59) (tgt := 63) dX4_whereFrom_59 (by decide) ?_
      refine e_ior (pc := 63) dX4_whereFrom_63 ?_
      refine e_istore (L' := [some (.ref a0), some (.int a1), some (.int a2), none, some (.int (b4 ||| ((1 : Int32) <<< (b5 &&& 31)))), some (.int b5)]) (pc := 64) dX4_whereFrom_64 (by decide) rfl ?_
      refine e_iinc (L' := [some (.ref a0), some (.int a1), some (.int a2), none, some (.int (b4 ||| ((1 : Int32) <<< (b5 &&& 31)))), some (.int (b5 + 1))]) (pc := 66) (v := 1) dX4_whereFrom_66 (by decide) rfl kc_1 rfl ?_
      refine e_goto (pc := 69) (tgt := 28) dX4_whereFrom_69 (by decide) ?_
      exact hk28 (b4 ||| ((1 : Int32) <<< (b5 &&& 31))) (b5 + 1) w7
def f_X4_whereFrom (a0 : Nat) (a1 : Int32) (a2 : Int32) (w : aW) : Option (Int32 × aW) :=
  (sF 3 w a0 19 (.int (0 : Int32))).bind fun w1 =>
  cV 3 w1 a0 (bk (f_X4_wrongLiving a0 a1 a2 w1) fun x3 w2 =>
  if (0 : Int32) ≤ x3 then
    cV 3 w2 a0 (bk (f_X4_think a0 w2) fun _ w4 =>
    loop3 (c_X4_whereFrom_28 a0 a1 a2) a_fuel (0 : Int32) (0 : Int32) w4)
  else
    some (x3, w2))
theorem s_X4_whereFrom (a0 : Nat) (a1 : Int32) (a2 : Int32) (w : aW) : Sp rvI M_X4_whereFrom [.ref a0, .int a1, .int a2] w (f_X4_whereFrom a0 a1 a2 w) := by
  refine e_entry [some (.ref a0), some (.int a1), some (.int a2), none, none, none] (by decide +kernel) (Nat.le_of_ble_eq_true rfl) (fun _ => rfl) ?_
  unfold f_X4_whereFrom
  refine e_aload_n (pc := 0) dX4_whereFrom_0 rfl rfl ?_
  refine e_iconst (pc := 1) dX4_whereFrom_1 kc_0 ?_
  refine e_put (pc := 2) dX4_whereFrom_2 hw_X4_80 (fun _ => rfl) (fun _ => rfl) (fun w1 => ?_)
  refine e_aload_n (pc := 5) dX4_whereFrom_5 rfl rfl ?_
  refine e_iload_n (pc := 6) dX4_whereFrom_6 rfl rfl ?_
  refine e_iload_n (pc := 7) dX4_whereFrom_7 rfl rfl ?_
  refine e_callV (pc := 8) (av := [.int a1, .int a2]) (S := []) (c0 := 3) rfl rfl ok_X4_wrongLiving ⟨Nat.le_of_ble_eq_true rfl, Nat.le_of_ble_eq_true rfl⟩ hv_X4_340 dX4_whereFrom_8 (s_X4_wrongLiving a0 a1 a2 w1) rfl rfl (Nat.le_of_ble_eq_true rfl) (fun x3 w2 => ?_)
  refine e_istore_n (L' := [some (.ref a0), some (.int a1), some (.int a2), some (.int x3), none, none]) (pc := 11) dX4_whereFrom_11 rfl (by decide) rfl ?_
  refine e_iload_n (pc := 12) dX4_whereFrom_12 rfl rfl ?_
  refine e_if_ge (pc := 13) (tgt := 18) dX4_whereFrom_13 (by decide) (fun _ => ?_) (fun _ => ?_)
  · refine e_iconst (pc := 18) dX4_whereFrom_18 kc_0 ?_
    refine e_istore (L' := [some (.ref a0), some (.int a1), some (.int a2), some (.int x3), some (.int (0 : Int32)), none]) (pc := 19) dX4_whereFrom_19 (by decide) rfl ?_
    refine e_aload_n (pc := 21) dX4_whereFrom_21 rfl rfl ?_
    refine e_callV (pc := 22) (av := []) (S := []) (c0 := 3) rfl rfl ok_X4_think ⟨Nat.le_of_ble_eq_true rfl, Nat.le_of_ble_eq_true rfl⟩ hv_X4_221 dX4_whereFrom_22 (s_X4_think a0 w2) rfl rfl (Nat.le_of_ble_eq_true rfl) (fun _ w4 => ?_)
    refine e_iconst (pc := 25) dX4_whereFrom_25 kc_0 ?_
    refine e_istore (L' := [some (.ref a0), some (.int a1), some (.int a2), some (.int x3), some (.int (0 : Int32)), some (.int (0 : Int32))]) (pc := 26) dX4_whereFrom_26 (by decide) rfl ?_
    refine e_forget (L2 := [some (.ref a0), some (.int a1), some (.int a2), none, some (.int (0 : Int32)), some (.int (0 : Int32))]) (And.intro rfl (And.intro rfl (And.intro rfl (And.intro rfl (And.intro rfl trivial))))) ?_
    exact e_loop3 (L := fun b4 b5 => [some (.ref a0), some (.int a1), some (.int a2), none, some (.int b4), some (.int b5)]) (S := fun b4 b5 => []) (fun kf hkf => t_X4_whereFrom_28 a0 a1 a2  kf hkf) _ (0 : Int32) (0 : Int32) w4
  · refine e_iload_n (pc := 16) dX4_whereFrom_16 rfl rfl ?_
    exact e_iret (pc := 17) dX4_whereFrom_17 rfl rfl
def M_X4_whose : aM := (yX4_whose, cX4_whose, 6, (some .int), 6, 137)
theorem ok_X4_whose : a_okM M_X4_whose 2 := ⟨⟨by decide +kernel, by decide +kernel⟩, by decide +kernel, a_in 1350 (by decide +kernel) rfl, a_in 79 (by decide +kernel) rfl⟩
theorem dX4_whose_0 : decode M_X4_whose.2.1 0 = .ok (.aload_n 0, 1) := by decide +kernel
theorem dX4_whose_1 : decode M_X4_whose.2.1 1 = .ok (.iconst 0, 1) := by decide +kernel
theorem dX4_whose_2 : decode M_X4_whose.2.1 2 = .ok (.putfield 80, 3) := by decide +kernel
theorem dX4_whose_5 : decode M_X4_whose.2.1 5 = .ok (.aload_n 0, 1) := by decide +kernel
theorem dX4_whose_6 : decode M_X4_whose.2.1 6 = .ok (.iload_n 1, 1) := by decide +kernel
theorem dX4_whose_7 : decode M_X4_whose.2.1 7 = .ok (.iload_n 2, 1) := by decide +kernel
theorem dX4_whose_8 : decode M_X4_whose.2.1 8 = .ok (.invokevirtual 340, 3) := by decide +kernel
theorem dX4_whose_11 : decode M_X4_whose.2.1 11 = .ok (.istore_n 3, 1) := by decide +kernel
theorem dX4_whose_12 : decode M_X4_whose.2.1 12 = .ok (.iload_n 3, 1) := by decide +kernel
theorem dX4_whose_13 : decode M_X4_whose.2.1 13 = .ok (.ifCond .ge 5, 3) := by decide +kernel
theorem dX4_whose_16 : decode M_X4_whose.2.1 16 = .ok (.iload_n 3, 1) := by decide +kernel
theorem dX4_whose_17 : decode M_X4_whose.2.1 17 = .ok (.ireturn, 1) := by decide +kernel
theorem dX4_whose_18 : decode M_X4_whose.2.1 18 = .ok (.iconst 0, 1) := by decide +kernel
theorem dX4_whose_19 : decode M_X4_whose.2.1 19 = .ok (.istore 4, 2) := by decide +kernel
theorem dX4_whose_21 : decode M_X4_whose.2.1 21 = .ok (.aload_n 0, 1) := by decide +kernel
theorem dX4_whose_22 : decode M_X4_whose.2.1 22 = .ok (.invokevirtual 221, 3) := by decide +kernel
theorem dX4_whose_25 : decode M_X4_whose.2.1 25 = .ok (.iconst 0, 1) := by decide +kernel
theorem dX4_whose_26 : decode M_X4_whose.2.1 26 = .ok (.istore 5, 2) := by decide +kernel
theorem dX4_whose_28 : decode M_X4_whose.2.1 28 = .ok (.iload 5, 2) := by decide +kernel
theorem dX4_whose_30 : decode M_X4_whose.2.1 30 = .ok (.bipush 6, 2) := by decide +kernel
theorem dX4_whose_32 : decode M_X4_whose.2.1 32 = .ok (.if_icmp .ge 50, 3) := by decide +kernel
theorem dX4_whose_35 : decode M_X4_whose.2.1 35 = .ok (.aload_n 0, 1) := by decide +kernel
theorem dX4_whose_36 : decode M_X4_whose.2.1 36 = .ok (.getfield 22, 3) := by decide +kernel
theorem dX4_whose_39 : decode M_X4_whose.2.1 39 = .ok (.iload_n 2, 1) := by decide +kernel
theorem dX4_whose_40 : decode M_X4_whose.2.1 40 = .ok (.iload 5, 2) := by decide +kernel
theorem dX4_whose_42 : decode M_X4_whose.2.1 42 = .ok (.iconst 5, 1) := by decide +kernel
theorem dX4_whose_43 : decode M_X4_whose.2.1 43 = .ok (.if_icmp .ne 8, 3) := by decide +kernel
theorem dX4_whose_46 : decode M_X4_whose.2.1 46 = .ok (.bipush (-4), 2) := by decide +kernel
theorem dX4_whose_48 : decode M_X4_whose.2.1 48 = .ok (.goto 5, 3) := by decide +kernel
theorem dX4_whose_51 : decode M_X4_whose.2.1 51 = .ok (.iload 5, 2) := by decide +kernel
theorem dX4_whose_53 : decode M_X4_whose.2.1 53 = .ok (.iastore, 1) := by decide +kernel
theorem dX4_whose_54 : decode M_X4_whose.2.1 54 = .ok (.iload 4, 2) := by decide +kernel
theorem dX4_whose_56 : decode M_X4_whose.2.1 56 = .ok (.aload_n 0, 1) := by decide +kernel
theorem dX4_whose_57 : decode M_X4_whose.2.1 57 = .ok (.iload_n 1, 1) := by decide +kernel
theorem dX4_whose_58 : decode M_X4_whose.2.1 58 = .ok (.iload_n 2, 1) := by decide +kernel
theorem dX4_whose_59 : decode M_X4_whose.2.1 59 = .ok (.invokevirtual 343, 3) := by decide +kernel
theorem dX4_whose_62 : decode M_X4_whose.2.1 62 = .ok (.ifCond .eq 10, 3) := by decide +kernel
theorem dX4_whose_65 : decode M_X4_whose.2.1 65 = .ok (.iconst 1, 1) := by decide +kernel
theorem dX4_whose_66 : decode M_X4_whose.2.1 66 = .ok (.iload 5, 2) := by decide +kernel
theorem dX4_whose_68 : decode M_X4_whose.2.1 68 = .ok (.ishl, 1) := by decide +kernel
theorem dX4_whose_69 : decode M_X4_whose.2.1 69 = .ok (.goto 4, 3) := by decide +kernel
theorem dX4_whose_72 : decode M_X4_whose.2.1 72 = .ok (.iconst 0, 1) := by decide +kernel
theorem dX4_whose_73 : decode M_X4_whose.2.1 73 = .ok (.ior, 1) := by decide +kernel
theorem dX4_whose_74 : decode M_X4_whose.2.1 74 = .ok (.istore 4, 2) := by decide +kernel
theorem dX4_whose_76 : decode M_X4_whose.2.1 76 = .ok (.iinc 5 1, 3) := by decide +kernel
theorem dX4_whose_79 : decode M_X4_whose.2.1 79 = .ok (.goto (-51), 3) := by decide +kernel
theorem dX4_whose_82 : decode M_X4_whose.2.1 82 = .ok (.iload 4, 2) := by decide +kernel
theorem dX4_whose_84 : decode M_X4_whose.2.1 84 = .ok (.ireturn, 1) := by decide +kernel
theorem hv_X4_343 : a_okV RX4 M_X4_isHungerRow 343 := ⟨a_in 1351 (by decide +kernel) rfl, a_in 1353 (by decide +kernel) rfl, a_in 71 (by decide +kernel) rfl⟩
def c_X4_whose_53 (a0 : Nat) (a1 : Int32) (a2 : Int32) (k28 : Int32 → Int32 → aW → Option (Int32 × aW)) (b4 : Int32) (b5 : Int32) (s0 : Int32) (s1 : Int32) (s2 : Nat) (w : aW) : Option (Int32 × aW) :=
  (sA w s2 s1 s0).bind fun w6 =>
  cV 3 w6 a0 (bk (f_X4_isHungerRow a0 a1 a2 w6) fun x8 w7 =>
  if x8 = (0 : Int32) then
    k28 (b4 ||| (0 : Int32)) (b5 + 1) w7
  else
    k28 (b4 ||| ((1 : Int32) <<< (b5 &&& 31))) (b5 + 1) w7)
theorem t_X4_whose_53 (a0 : Nat) (a1 : Int32) (a2 : Int32) (k28 : Int32 → Int32 → aW → Option (Int32 × aW)) (hk28 : ∀ (b4 : Int32) (b5 : Int32) (w : aW), Ev rvI M_X4_whose 28 [some (.ref a0), some (.int a1), some (.int a2), none, some (.int b4), some (.int b5)] [] w (k28 b4 b5 w)) (b4 : Int32) (b5 : Int32) (s0 : Int32) (s1 : Int32) (s2 : Nat) (w : aW) : Ev rvI M_X4_whose 53 [some (.ref a0), some (.int a1), some (.int a2), none, some (.int b4), some (.int b5)] [.int s0, .int s1, .ref s2] w (c_X4_whose_53 a0 a1 a2 k28 b4 b5 s0 s1 s2 w) := by
  unfold c_X4_whose_53
  refine e_iast (pc := 53) dX4_whose_53 (fun w6 => ?_)
  refine e_iload (pc := 54) dX4_whose_54 rfl ?_
  refine e_aload_n (pc := 56) dX4_whose_56 rfl rfl ?_
  refine e_iload_n (pc := 57) dX4_whose_57 rfl rfl ?_
  refine e_iload_n (pc := 58) dX4_whose_58 rfl rfl ?_
  refine e_callV (pc := 59) (av := [.int a1, .int a2]) (S := [.int b4]) (c0 := 3) rfl rfl ok_X4_isHungerRow ⟨Nat.le_of_ble_eq_true rfl, Nat.le_of_ble_eq_true rfl⟩ hv_X4_343 dX4_whose_59 (s_X4_isHungerRow a0 a1 a2 w6) rfl rfl (Nat.le_of_ble_eq_true rfl) (fun x8 w7 => ?_)
  refine e_if_eq (pc := 62) (tgt := 72) dX4_whose_62 (by decide) (fun _ => ?_) (fun _ => ?_)
  · refine e_iconst (pc := 72) dX4_whose_72 kc_0 ?_
    refine e_ior (pc := 73) dX4_whose_73 ?_
    refine e_istore (L' := [some (.ref a0), some (.int a1), some (.int a2), none, some (.int (b4 ||| (0 : Int32))), some (.int b5)]) (pc := 74) dX4_whose_74 (by decide) rfl ?_
    refine e_iinc (L' := [some (.ref a0), some (.int a1), some (.int a2), none, some (.int (b4 ||| (0 : Int32))), some (.int (b5 + 1))]) (pc := 76) (v := 1) dX4_whose_76 (by decide) rfl kc_1 rfl ?_
    refine e_goto (pc := 79) (tgt := 28) dX4_whose_79 (by decide) ?_
    exact hk28 (b4 ||| (0 : Int32)) (b5 + 1) w7
  · refine e_iconst (pc := 65) dX4_whose_65 kc_1 ?_
    refine e_iload (pc := 66) dX4_whose_66 rfl ?_
    refine e_ishl (pc := 68) dX4_whose_68 ?_
    refine e_goto (pc := 69) (tgt := 73) dX4_whose_69 (by decide) ?_
    refine e_ior (pc := 73) dX4_whose_73 ?_
    refine e_istore (L' := [some (.ref a0), some (.int a1), some (.int a2), none, some (.int (b4 ||| ((1 : Int32) <<< (b5 &&& 31)))), some (.int b5)]) (pc := 74) dX4_whose_74 (by decide) rfl ?_
    refine e_iinc (L' := [some (.ref a0), some (.int a1), some (.int a2), none, some (.int (b4 ||| ((1 : Int32) <<< (b5 &&& 31)))), some (.int (b5 + 1))]) (pc := 76) (v := 1) dX4_whose_76 (by decide) rfl kc_1 rfl ?_
    refine e_goto (pc := 79) (tgt := 28) dX4_whose_79 (by decide) ?_
    exact hk28 (b4 ||| ((1 : Int32) <<< (b5 &&& 31))) (b5 + 1) w7
def c_X4_whose_28 (a0 : Nat) (a1 : Int32) (a2 : Int32) (k28 : Int32 → Int32 → aW → Option (Int32 × aW)) (b4 : Int32) (b5 : Int32) (w : aW) : Option (Int32 × aW) :=
  if (6 : Int32) ≤ b5 then
    some (b4, w)
  else
    (gR 3 w a0 5).bind fun r5 =>
    if ¬ b5 = (5 : Int32) then
      c_X4_whose_53 a0 a1 a2 k28 b4 b5 b5 a2 r5 w
    else
      c_X4_whose_53 a0 a1 a2 k28 b4 b5 (-4 : Int32) a2 r5 w
theorem t_X4_whose_28 (a0 : Nat) (a1 : Int32) (a2 : Int32) (k28 : Int32 → Int32 → aW → Option (Int32 × aW)) (hk28 : ∀ (b4 : Int32) (b5 : Int32) (w : aW), Ev rvI M_X4_whose 28 [some (.ref a0), some (.int a1), some (.int a2), none, some (.int b4), some (.int b5)] [] w (k28 b4 b5 w)) (b4 : Int32) (b5 : Int32) (w : aW) : Ev rvI M_X4_whose 28 [some (.ref a0), some (.int a1), some (.int a2), none, some (.int b4), some (.int b5)] [] w (c_X4_whose_28 a0 a1 a2 k28 b4 b5 w) := by
  unfold c_X4_whose_28
  refine e_iload (pc := 28) dX4_whose_28 rfl ?_
  refine e_bipush (pc := 30) dX4_whose_30 kb_6 ?_
  refine e_icmp_ge (pc := 32) (tgt := 82) dX4_whose_32 (by decide) (fun _ => ?_) (fun _ => ?_)
  · refine e_iload (pc := 82) dX4_whose_82 rfl ?_
    exact e_iret (pc := 84) dX4_whose_84 rfl rfl
  · refine e_aload_n (pc := 35) dX4_whose_35 rfl rfl ?_
    refine e_getR (pc := 36) dX4_whose_36 hs_X4_22 (fun r5 => ?_)
    refine e_iload_n (pc := 39) dX4_whose_39 rfl rfl ?_
    refine e_iload (pc := 40) dX4_whose_40 rfl ?_
    refine e_iconst (pc := 42) dX4_whose_42 kc_5 ?_
    refine e_icmp_ne (pc := 43) (tgt := 51) dX4_whose_43 (by decide) (fun _ => ?_) (fun _ => ?_)
    · refine e_iload (pc := 51) dX4_whose_51 rfl ?_
      exact t_X4_whose_53 a0 a1 a2 k28 hk28 b4 b5 b5 a2 r5 w
    · refine e_bipush (pc := 46) dX4_whose_46 kb_m4 ?_
      refine e_goto (pc := 48) (tgt := 53) dX4_whose_48 (by decide) ?_
      exact t_X4_whose_53 a0 a1 a2 k28 hk28 b4 b5 (-4 : Int32) a2 r5 w
def f_X4_whose (a0 : Nat) (a1 : Int32) (a2 : Int32) (w : aW) : Option (Int32 × aW) :=
  (sF 3 w a0 19 (.int (0 : Int32))).bind fun w1 =>
  cV 3 w1 a0 (bk (f_X4_wrongLiving a0 a1 a2 w1) fun x3 w2 =>
  if (0 : Int32) ≤ x3 then
    cV 3 w2 a0 (bk (f_X4_think a0 w2) fun _ w4 =>
    loop3 (c_X4_whose_28 a0 a1 a2) a_fuel (0 : Int32) (0 : Int32) w4)
  else
    some (x3, w2))
theorem s_X4_whose (a0 : Nat) (a1 : Int32) (a2 : Int32) (w : aW) : Sp rvI M_X4_whose [.ref a0, .int a1, .int a2] w (f_X4_whose a0 a1 a2 w) := by
  refine e_entry [some (.ref a0), some (.int a1), some (.int a2), none, none, none] (by decide +kernel) (Nat.le_of_ble_eq_true rfl) (fun _ => rfl) ?_
  unfold f_X4_whose
  refine e_aload_n (pc := 0) dX4_whose_0 rfl rfl ?_
  refine e_iconst (pc := 1) dX4_whose_1 kc_0 ?_
  refine e_put (pc := 2) dX4_whose_2 hw_X4_80 (fun _ => rfl) (fun _ => rfl) (fun w1 => ?_)
  refine e_aload_n (pc := 5) dX4_whose_5 rfl rfl ?_
  refine e_iload_n (pc := 6) dX4_whose_6 rfl rfl ?_
  refine e_iload_n (pc := 7) dX4_whose_7 rfl rfl ?_
  refine e_callV (pc := 8) (av := [.int a1, .int a2]) (S := []) (c0 := 3) rfl rfl ok_X4_wrongLiving ⟨Nat.le_of_ble_eq_true rfl, Nat.le_of_ble_eq_true rfl⟩ hv_X4_340 dX4_whose_8 (s_X4_wrongLiving a0 a1 a2 w1) rfl rfl (Nat.le_of_ble_eq_true rfl) (fun x3 w2 => ?_)
  refine e_istore_n (L' := [some (.ref a0), some (.int a1), some (.int a2), some (.int x3), none, none]) (pc := 11) dX4_whose_11 rfl (by decide) rfl ?_
  refine e_iload_n (pc := 12) dX4_whose_12 rfl rfl ?_
  refine e_if_ge (pc := 13) (tgt := 18) dX4_whose_13 (by decide) (fun _ => ?_) (fun _ => ?_)
  · refine e_iconst (pc := 18) dX4_whose_18 kc_0 ?_
    refine e_istore (L' := [some (.ref a0), some (.int a1), some (.int a2), some (.int x3), some (.int (0 : Int32)), none]) (pc := 19) dX4_whose_19 (by decide) rfl ?_
    refine e_aload_n (pc := 21) dX4_whose_21 rfl rfl ?_
    refine e_callV (pc := 22) (av := []) (S := []) (c0 := 3) rfl rfl ok_X4_think ⟨Nat.le_of_ble_eq_true rfl, Nat.le_of_ble_eq_true rfl⟩ hv_X4_221 dX4_whose_22 (s_X4_think a0 w2) rfl rfl (Nat.le_of_ble_eq_true rfl) (fun _ w4 => ?_)
    refine e_iconst (pc := 25) dX4_whose_25 kc_0 ?_
    refine e_istore (L' := [some (.ref a0), some (.int a1), some (.int a2), some (.int x3), some (.int (0 : Int32)), some (.int (0 : Int32))]) (pc := 26) dX4_whose_26 (by decide) rfl ?_
    refine e_forget (L2 := [some (.ref a0), some (.int a1), some (.int a2), none, some (.int (0 : Int32)), some (.int (0 : Int32))]) (And.intro rfl (And.intro rfl (And.intro rfl (And.intro rfl (And.intro rfl trivial))))) ?_
    exact e_loop3 (L := fun b4 b5 => [some (.ref a0), some (.int a1), some (.int a2), none, some (.int b4), some (.int b5)]) (S := fun b4 b5 => []) (fun kf hkf => t_X4_whose_28 a0 a1 a2  kf hkf) _ (0 : Int32) (0 : Int32) w4
  · refine e_iload_n (pc := 16) dX4_whose_16 rfl rfl ?_
    exact e_iret (pc := 17) dX4_whose_17 rfl rfl
def M_X4_two : aM := (yX4_two, cX4_two, 7, (some .int), 6, 135)
theorem ok_X4_two : a_okM M_X4_two 3 := ⟨⟨by decide +kernel, by decide +kernel⟩, by decide +kernel, a_in 1358 (by decide +kernel) rfl, a_in 79 (by decide +kernel) rfl⟩
theorem dX4_two_0 : decode M_X4_two.2.1 0 = .ok (.aload_n 0, 1) := by decide +kernel
theorem dX4_two_1 : decode M_X4_two.2.1 1 = .ok (.iconst 0, 1) := by decide +kernel
theorem dX4_two_2 : decode M_X4_two.2.1 2 = .ok (.putfield 80, 3) := by decide +kernel
theorem dX4_two_5 : decode M_X4_two.2.1 5 = .ok (.iload_n 1, 1) := by decide +kernel
theorem dX4_two_6 : decode M_X4_two.2.1 6 = .ok (.invokestatic 188, 3) := by decide +kernel
theorem dX4_two_9 : decode M_X4_two.2.1 9 = .ok (.ifCond .eq 27, 3) := by decide +kernel
theorem dX4_two_12 : decode M_X4_two.2.1 12 = .ok (.iload_n 2, 1) := by decide +kernel
theorem dX4_two_13 : decode M_X4_two.2.1 13 = .ok (.invokestatic 188, 3) := by decide +kernel
theorem dX4_two_16 : decode M_X4_two.2.1 16 = .ok (.ifCond .eq 20, 3) := by decide +kernel
theorem dX4_two_19 : decode M_X4_two.2.1 19 = .ok (.iload_n 1, 1) := by decide +kernel
theorem dX4_two_20 : decode M_X4_two.2.1 20 = .ok (.iload_n 2, 1) := by decide +kernel
theorem dX4_two_21 : decode M_X4_two.2.1 21 = .ok (.if_icmp .eq 15, 3) := by decide +kernel
theorem dX4_two_24 : decode M_X4_two.2.1 24 = .ok (.iload_n 3, 1) := by decide +kernel
theorem dX4_two_25 : decode M_X4_two.2.1 25 = .ok (.i2l, 1) := by decide +kernel
theorem dX4_two_26 : decode M_X4_two.2.1 26 = .ok (.lconst 1, 1) := by decide +kernel
theorem dX4_two_27 : decode M_X4_two.2.1 27 = .ok (.ldc2_w 294, 3) := by decide +kernel
theorem dX4_two_30 : decode M_X4_two.2.1 30 = .ok (.invokestatic 86, 3) := by decide +kernel
theorem dX4_two_33 : decode M_X4_two.2.1 33 = .ok (.ifCond .ne 5, 3) := by decide +kernel
theorem dX4_two_36 : decode M_X4_two.2.1 36 = .ok (.iconst (-1), 1) := by decide +kernel
theorem dX4_two_37 : decode M_X4_two.2.1 37 = .ok (.ireturn, 1) := by decide +kernel
theorem dX4_two_38 : decode M_X4_two.2.1 38 = .ok (.aload_n 0, 1) := by decide +kernel
theorem dX4_two_39 : decode M_X4_two.2.1 39 = .ok (.invokevirtual 221, 3) := by decide +kernel
theorem dX4_two_42 : decode M_X4_two.2.1 42 = .ok (.iconst 0, 1) := by decide +kernel
theorem dX4_two_43 : decode M_X4_two.2.1 43 = .ok (.istore 4, 2) := by decide +kernel
theorem dX4_two_45 : decode M_X4_two.2.1 45 = .ok (.iload 4, 2) := by decide +kernel
theorem dX4_two_47 : decode M_X4_two.2.1 47 = .ok (.iconst 4, 1) := by decide +kernel
theorem dX4_two_48 : decode M_X4_two.2.1 48 = .ok (.if_icmp .ge 138, 3) := by decide +kernel
theorem dX4_two_51 : decode M_X4_two.2.1 51 = .ok (.aload_n 0, 1) := by decide +kernel
theorem dX4_two_52 : decode M_X4_two.2.1 52 = .ok (.getfield 34, 3) := by decide +kernel
theorem dX4_two_55 : decode M_X4_two.2.1 55 = .ok (.iload_n 1, 1) := by decide +kernel
theorem dX4_two_56 : decode M_X4_two.2.1 56 = .ok (.iaload, 1) := by decide +kernel
theorem dX4_two_57 : decode M_X4_two.2.1 57 = .ok (.istore 5, 2) := by decide +kernel
theorem dX4_two_59 : decode M_X4_two.2.1 59 = .ok (.aload_n 0, 1) := by decide +kernel
theorem dX4_two_60 : decode M_X4_two.2.1 60 = .ok (.getfield 34, 3) := by decide +kernel
theorem dX4_two_63 : decode M_X4_two.2.1 63 = .ok (.iload_n 2, 1) := by decide +kernel
theorem dX4_two_64 : decode M_X4_two.2.1 64 = .ok (.iaload, 1) := by decide +kernel
theorem dX4_two_65 : decode M_X4_two.2.1 65 = .ok (.istore 6, 2) := by decide +kernel
theorem dX4_two_67 : decode M_X4_two.2.1 67 = .ok (.aload_n 0, 1) := by decide +kernel
theorem dX4_two_68 : decode M_X4_two.2.1 68 = .ok (.getfield 31, 3) := by decide +kernel
theorem dX4_two_71 : decode M_X4_two.2.1 71 = .ok (.iload_n 1, 1) := by decide +kernel
theorem dX4_two_72 : decode M_X4_two.2.1 72 = .ok (.iload 4, 2) := by decide +kernel
theorem dX4_two_74 : decode M_X4_two.2.1 74 = .ok (.iconst 2, 1) := by decide +kernel
theorem dX4_two_75 : decode M_X4_two.2.1 75 = .ok (.idiv, 1) := by decide +kernel
theorem dX4_two_76 : decode M_X4_two.2.1 76 = .ok (.iconst 1, 1) := by decide +kernel
theorem dX4_two_77 : decode M_X4_two.2.1 77 = .ok (.if_icmp .ne 12, 3) := by decide +kernel
theorem dX4_two_80 : decode M_X4_two.2.1 80 = .ok (.aload_n 0, 1) := by decide +kernel
theorem dX4_two_81 : decode M_X4_two.2.1 81 = .ok (.getfield 31, 3) := by decide +kernel
theorem dX4_two_84 : decode M_X4_two.2.1 84 = .ok (.iload_n 1, 1) := by decide +kernel
theorem dX4_two_85 : decode M_X4_two.2.1 85 = .ok (.iaload, 1) := by decide +kernel
theorem dX4_two_86 : decode M_X4_two.2.1 86 = .ok (.goto 4, 3) := by decide +kernel
theorem dX4_two_89 : decode M_X4_two.2.1 89 = .ok (.iconst 0, 1) := by decide +kernel
theorem dX4_two_90 : decode M_X4_two.2.1 90 = .ok (.iastore, 1) := by decide +kernel
theorem dX4_two_91 : decode M_X4_two.2.1 91 = .ok (.aload_n 0, 1) := by decide +kernel
theorem dX4_two_92 : decode M_X4_two.2.1 92 = .ok (.getfield 31, 3) := by decide +kernel
theorem dX4_two_95 : decode M_X4_two.2.1 95 = .ok (.iload_n 2, 1) := by decide +kernel
theorem dX4_two_96 : decode M_X4_two.2.1 96 = .ok (.iload 4, 2) := by decide +kernel
theorem dX4_two_98 : decode M_X4_two.2.1 98 = .ok (.iconst 2, 1) := by decide +kernel
theorem dX4_two_99 : decode M_X4_two.2.1 99 = .ok (.irem, 1) := by decide +kernel
theorem dX4_two_100 : decode M_X4_two.2.1 100 = .ok (.iconst 1, 1) := by decide +kernel
theorem dX4_two_101 : decode M_X4_two.2.1 101 = .ok (.if_icmp .ne 12, 3) := by decide +kernel
theorem dX4_two_104 : decode M_X4_two.2.1 104 = .ok (.aload_n 0, 1) := by decide +kernel
theorem dX4_two_105 : decode M_X4_two.2.1 105 = .ok (.getfield 31, 3) := by decide +kernel
theorem dX4_two_108 : decode M_X4_two.2.1 108 = .ok (.iload_n 2, 1) := by decide +kernel
theorem dX4_two_109 : decode M_X4_two.2.1 109 = .ok (.iaload, 1) := by decide +kernel
theorem dX4_two_110 : decode M_X4_two.2.1 110 = .ok (.goto 4, 3) := by decide +kernel
theorem dX4_two_113 : decode M_X4_two.2.1 113 = .ok (.iconst 0, 1) := by decide +kernel
theorem dX4_two_114 : decode M_X4_two.2.1 114 = .ok (.iastore, 1) := by decide +kernel
theorem dX4_two_115 : decode M_X4_two.2.1 115 = .ok (.aload_n 0, 1) := by decide +kernel
theorem dX4_two_116 : decode M_X4_two.2.1 116 = .ok (.iload_n 3, 1) := by decide +kernel
theorem dX4_two_117 : decode M_X4_two.2.1 117 = .ok (.invokevirtual 193, 3) := by decide +kernel
theorem dX4_two_120 : decode M_X4_two.2.1 120 = .ok (.aload_n 0, 1) := by decide +kernel
theorem dX4_two_121 : decode M_X4_two.2.1 121 = .ok (.getfield 74, 3) := by decide +kernel
theorem dX4_two_124 : decode M_X4_two.2.1 124 = .ok (.iconst 2, 1) := by decide +kernel
theorem dX4_two_125 : decode M_X4_two.2.1 125 = .ok (.iload 4, 2) := by decide +kernel
theorem dX4_two_127 : decode M_X4_two.2.1 127 = .ok (.imul, 1) := by decide +kernel
theorem dX4_two_128 : decode M_X4_two.2.1 128 = .ok (.aload_n 0, 1) := by decide +kernel
theorem dX4_two_129 : decode M_X4_two.2.1 129 = .ok (.getfield 25, 3) := by decide +kernel
theorem dX4_two_132 : decode M_X4_two.2.1 132 = .ok (.iload_n 1, 1) := by decide +kernel
theorem dX4_two_133 : decode M_X4_two.2.1 133 = .ok (.iaload, 1) := by decide +kernel
theorem dX4_two_134 : decode M_X4_two.2.1 134 = .ok (.iconst 5, 1) := by decide +kernel
theorem dX4_two_135 : decode M_X4_two.2.1 135 = .ok (.aload_n 0, 1) := by decide +kernel
theorem dX4_two_136 : decode M_X4_two.2.1 136 = .ok (.getfield 34, 3) := by decide +kernel
theorem dX4_two_139 : decode M_X4_two.2.1 139 = .ok (.iload_n 1, 1) := by decide +kernel
theorem dX4_two_140 : decode M_X4_two.2.1 140 = .ok (.iaload, 1) := by decide +kernel
theorem dX4_two_141 : decode M_X4_two.2.1 141 = .ok (.iload 5, 2) := by decide +kernel
theorem dX4_two_143 : decode M_X4_two.2.1 143 = .ok (.isub, 1) := by decide +kernel
theorem dX4_two_144 : decode M_X4_two.2.1 144 = .ok (.imul, 1) := by decide +kernel
theorem dX4_two_145 : decode M_X4_two.2.1 145 = .ok (.isub, 1) := by decide +kernel
theorem dX4_two_146 : decode M_X4_two.2.1 146 = .ok (.iastore, 1) := by decide +kernel
theorem dX4_two_147 : decode M_X4_two.2.1 147 = .ok (.aload_n 0, 1) := by decide +kernel
theorem dX4_two_148 : decode M_X4_two.2.1 148 = .ok (.getfield 74, 3) := by decide +kernel
theorem dX4_two_151 : decode M_X4_two.2.1 151 = .ok (.iconst 2, 1) := by decide +kernel
theorem dX4_two_152 : decode M_X4_two.2.1 152 = .ok (.iload 4, 2) := by decide +kernel
theorem dX4_two_154 : decode M_X4_two.2.1 154 = .ok (.imul, 1) := by decide +kernel
theorem dX4_two_155 : decode M_X4_two.2.1 155 = .ok (.iconst 1, 1) := by decide +kernel
theorem dX4_two_156 : decode M_X4_two.2.1 156 = .ok (.iadd, 1) := by decide +kernel
theorem dX4_two_157 : decode M_X4_two.2.1 157 = .ok (.aload_n 0, 1) := by decide +kernel
theorem dX4_two_158 : decode M_X4_two.2.1 158 = .ok (.getfield 25, 3) := by decide +kernel
theorem dX4_two_161 : decode M_X4_two.2.1 161 = .ok (.iload_n 2, 1) := by decide +kernel
theorem dX4_two_162 : decode M_X4_two.2.1 162 = .ok (.iaload, 1) := by decide +kernel
theorem dX4_two_163 : decode M_X4_two.2.1 163 = .ok (.iconst 5, 1) := by decide +kernel
theorem dX4_two_164 : decode M_X4_two.2.1 164 = .ok (.aload_n 0, 1) := by decide +kernel
theorem dX4_two_165 : decode M_X4_two.2.1 165 = .ok (.getfield 34, 3) := by decide +kernel
theorem dX4_two_168 : decode M_X4_two.2.1 168 = .ok (.iload_n 2, 1) := by decide +kernel
theorem dX4_two_169 : decode M_X4_two.2.1 169 = .ok (.iaload, 1) := by decide +kernel
theorem dX4_two_170 : decode M_X4_two.2.1 170 = .ok (.iload 6, 2) := by decide +kernel
theorem dX4_two_172 : decode M_X4_two.2.1 172 = .ok (.isub, 1) := by decide +kernel
theorem dX4_two_173 : decode M_X4_two.2.1 173 = .ok (.imul, 1) := by decide +kernel
theorem dX4_two_174 : decode M_X4_two.2.1 174 = .ok (.isub, 1) := by decide +kernel
theorem dX4_two_175 : decode M_X4_two.2.1 175 = .ok (.iastore, 1) := by decide +kernel
theorem dX4_two_176 : decode M_X4_two.2.1 176 = .ok (.aload_n 0, 1) := by decide +kernel
theorem dX4_two_177 : decode M_X4_two.2.1 177 = .ok (.invokevirtual 227, 3) := by decide +kernel
theorem dX4_two_180 : decode M_X4_two.2.1 180 = .ok (.iinc 4 1, 3) := by decide +kernel
theorem dX4_two_183 : decode M_X4_two.2.1 183 = .ok (.goto (-138), 3) := by decide +kernel
theorem dX4_two_186 : decode M_X4_two.2.1 186 = .ok (.iconst 0, 1) := by decide +kernel
theorem dX4_two_187 : decode M_X4_two.2.1 187 = .ok (.istore 4, 2) := by decide +kernel
theorem dX4_two_189 : decode M_X4_two.2.1 189 = .ok (.iload 4, 2) := by decide +kernel
theorem dX4_two_191 : decode M_X4_two.2.1 191 = .ok (.iconst 4, 1) := by decide +kernel
theorem dX4_two_192 : decode M_X4_two.2.1 192 = .ok (.if_icmp .ge 98, 3) := by decide +kernel
theorem dX4_two_195 : decode M_X4_two.2.1 195 = .ok (.iconst 2, 1) := by decide +kernel
theorem dX4_two_196 : decode M_X4_two.2.1 196 = .ok (.iconst 1, 1) := by decide +kernel
theorem dX4_two_197 : decode M_X4_two.2.1 197 = .ok (.iload 4, 2) := by decide +kernel
theorem dX4_two_199 : decode M_X4_two.2.1 199 = .ok (.iconst 2, 1) := by decide +kernel
theorem dX4_two_200 : decode M_X4_two.2.1 200 = .ok (.idiv, 1) := by decide +kernel
theorem dX4_two_201 : decode M_X4_two.2.1 201 = .ok (.isub, 1) := by decide +kernel
theorem dX4_two_202 : decode M_X4_two.2.1 202 = .ok (.imul, 1) := by decide +kernel
theorem dX4_two_203 : decode M_X4_two.2.1 203 = .ok (.iload 4, 2) := by decide +kernel
theorem dX4_two_205 : decode M_X4_two.2.1 205 = .ok (.iconst 2, 1) := by decide +kernel
theorem dX4_two_206 : decode M_X4_two.2.1 206 = .ok (.irem, 1) := by decide +kernel
theorem dX4_two_207 : decode M_X4_two.2.1 207 = .ok (.iadd, 1) := by decide +kernel
theorem dX4_two_208 : decode M_X4_two.2.1 208 = .ok (.istore 5, 2) := by decide +kernel
theorem dX4_two_210 : decode M_X4_two.2.1 210 = .ok (.iconst 2, 1) := by decide +kernel
theorem dX4_two_211 : decode M_X4_two.2.1 211 = .ok (.iload 4, 2) := by decide +kernel
theorem dX4_two_213 : decode M_X4_two.2.1 213 = .ok (.iconst 2, 1) := by decide +kernel
theorem dX4_two_214 : decode M_X4_two.2.1 214 = .ok (.idiv, 1) := by decide +kernel
theorem dX4_two_215 : decode M_X4_two.2.1 215 = .ok (.imul, 1) := by decide +kernel
theorem dX4_two_216 : decode M_X4_two.2.1 216 = .ok (.iconst 1, 1) := by decide +kernel
theorem dX4_two_217 : decode M_X4_two.2.1 217 = .ok (.iadd, 1) := by decide +kernel
theorem dX4_two_218 : decode M_X4_two.2.1 218 = .ok (.iload 4, 2) := by decide +kernel
theorem dX4_two_220 : decode M_X4_two.2.1 220 = .ok (.iconst 2, 1) := by decide +kernel
theorem dX4_two_221 : decode M_X4_two.2.1 221 = .ok (.irem, 1) := by decide +kernel
theorem dX4_two_222 : decode M_X4_two.2.1 222 = .ok (.isub, 1) := by decide +kernel
theorem dX4_two_223 : decode M_X4_two.2.1 223 = .ok (.istore 6, 2) := by decide +kernel
theorem dX4_two_225 : decode M_X4_two.2.1 225 = .ok (.aload_n 0, 1) := by decide +kernel
theorem dX4_two_226 : decode M_X4_two.2.1 226 = .ok (.getfield 74, 3) := by decide +kernel
theorem dX4_two_229 : decode M_X4_two.2.1 229 = .ok (.iconst 2, 1) := by decide +kernel
theorem dX4_two_230 : decode M_X4_two.2.1 230 = .ok (.iload 4, 2) := by decide +kernel
theorem dX4_two_232 : decode M_X4_two.2.1 232 = .ok (.imul, 1) := by decide +kernel
theorem dX4_two_233 : decode M_X4_two.2.1 233 = .ok (.iaload, 1) := by decide +kernel
theorem dX4_two_234 : decode M_X4_two.2.1 234 = .ok (.aload_n 0, 1) := by decide +kernel
theorem dX4_two_235 : decode M_X4_two.2.1 235 = .ok (.getfield 74, 3) := by decide +kernel
theorem dX4_two_238 : decode M_X4_two.2.1 238 = .ok (.iconst 2, 1) := by decide +kernel
theorem dX4_two_239 : decode M_X4_two.2.1 239 = .ok (.iload 5, 2) := by decide +kernel
theorem dX4_two_241 : decode M_X4_two.2.1 241 = .ok (.imul, 1) := by decide +kernel
theorem dX4_two_242 : decode M_X4_two.2.1 242 = .ok (.iaload, 1) := by decide +kernel
theorem dX4_two_243 : decode M_X4_two.2.1 243 = .ok (.if_icmp .lt 41, 3) := by decide +kernel
theorem dX4_two_246 : decode M_X4_two.2.1 246 = .ok (.aload_n 0, 1) := by decide +kernel
theorem dX4_two_247 : decode M_X4_two.2.1 247 = .ok (.getfield 74, 3) := by decide +kernel
theorem dX4_two_250 : decode M_X4_two.2.1 250 = .ok (.iconst 2, 1) := by decide +kernel
theorem dX4_two_251 : decode M_X4_two.2.1 251 = .ok (.iload 4, 2) := by decide +kernel
theorem dX4_two_253 : decode M_X4_two.2.1 253 = .ok (.imul, 1) := by decide +kernel
theorem dX4_two_254 : decode M_X4_two.2.1 254 = .ok (.iconst 1, 1) := by decide +kernel
theorem dX4_two_255 : decode M_X4_two.2.1 255 = .ok (.iadd, 1) := by decide +kernel
theorem dX4_two_256 : decode M_X4_two.2.1 256 = .ok (.iaload, 1) := by decide +kernel
theorem dX4_two_257 : decode M_X4_two.2.1 257 = .ok (.aload_n 0, 1) := by decide +kernel
theorem dX4_two_258 : decode M_X4_two.2.1 258 = .ok (.getfield 74, 3) := by decide +kernel
theorem dX4_two_261 : decode M_X4_two.2.1 261 = .ok (.iconst 2, 1) := by decide +kernel
theorem dX4_two_262 : decode M_X4_two.2.1 262 = .ok (.iload 6, 2) := by decide +kernel
theorem dX4_two_264 : decode M_X4_two.2.1 264 = .ok (.imul, 1) := by decide +kernel
theorem dX4_two_265 : decode M_X4_two.2.1 265 = .ok (.iconst 1, 1) := by decide +kernel
theorem dX4_two_266 : decode M_X4_two.2.1 266 = .ok (.iadd, 1) := by decide +kernel
theorem dX4_two_267 : decode M_X4_two.2.1 267 = .ok (.iaload, 1) := by decide +kernel
theorem dX4_two_268 : decode M_X4_two.2.1 268 = .ok (.if_icmp .lt 16, 3) := by decide +kernel
theorem dX4_two_271 : decode M_X4_two.2.1 271 = .ok (.bipush 10, 2) := by decide +kernel
theorem dX4_two_273 : decode M_X4_two.2.1 273 = .ok (.iload 4, 2) := by decide +kernel
theorem dX4_two_275 : decode M_X4_two.2.1 275 = .ok (.iconst 2, 1) := by decide +kernel
theorem dX4_two_276 : decode M_X4_two.2.1 276 = .ok (.idiv, 1) := by decide +kernel
theorem dX4_two_277 : decode M_X4_two.2.1 277 = .ok (.imul, 1) := by decide +kernel
theorem dX4_two_278 : decode M_X4_two.2.1 278 = .ok (.iload 4, 2) := by decide +kernel
theorem dX4_two_280 : decode M_X4_two.2.1 280 = .ok (.iconst 2, 1) := by decide +kernel
theorem dX4_two_281 : decode M_X4_two.2.1 281 = .ok (.irem, 1) := by decide +kernel
theorem dX4_two_282 : decode M_X4_two.2.1 282 = .ok (.iadd, 1) := by decide +kernel
theorem dX4_two_283 : decode M_X4_two.2.1 283 = .ok (.ireturn, 1) := by decide +kernel
theorem dX4_two_284 : decode M_X4_two.2.1 284 = .ok (.iinc 4 1, 3) := by decide +kernel
theorem dX4_two_287 : decode M_X4_two.2.1 287 = .ok (.goto (-98), 3) := by decide +kernel
theorem dX4_two_290 : decode M_X4_two.2.1 290 = .ok (.bipush (-4), 2) := by decide +kernel
theorem dX4_two_292 : decode M_X4_two.2.1 292 = .ok (.ireturn, 1) := by decide +kernel
theorem hs_X4_74 : a_fs RX4 74 3 34 := ⟨RX4, TX4, 37, rfl, tin_X4, by decide, a_in 899 (by decide +kernel) rfl⟩
def c_X4_two_189 (a0 : Nat) (a1 : Int32) (a2 : Int32) (a3 : Int32) (k189 : Int32 → aW → Option (Int32 × aW)) (b4 : Int32) (w : aW) : Option (Int32 × aW) :=
  if (4 : Int32) ≤ b4 then
    some ((-4 : Int32), w)
  else
    (gR 3 w a0 34).bind fun r16 =>
    (gA w r16 ((2 : Int32) * b4)).bind fun x17 =>
    (gR 3 w a0 34).bind fun r18 =>
    (gA w r18 ((2 : Int32) * (((2 : Int32) * ((1 : Int32) - (b4 / (2 : Int32)))) + (b4 - b4 / (2 : Int32) * (2 : Int32))))).bind fun x19 =>
    if x17 < x19 then
      k189 (b4 + 1) w
    else
      (gR 3 w a0 34).bind fun r20 =>
      (gA w r20 (((2 : Int32) * b4) + (1 : Int32))).bind fun x21 =>
      (gR 3 w a0 34).bind fun r22 =>
      (gA w r22 (((2 : Int32) * ((((2 : Int32) * (b4 / (2 : Int32))) + (1 : Int32)) - (b4 - b4 / (2 : Int32) * (2 : Int32)))) + (1 : Int32))).bind fun x23 =>
      if x21 < x23 then
        k189 (b4 + 1) w
      else
        some ((((10 : Int32) * (b4 / (2 : Int32))) + (b4 - b4 / (2 : Int32) * (2 : Int32))), w)
theorem t_X4_two_189 (a0 : Nat) (a1 : Int32) (a2 : Int32) (a3 : Int32) (k189 : Int32 → aW → Option (Int32 × aW)) (hk189 : ∀ (b4 : Int32) (w : aW), Ev rvI M_X4_two 189 [some (.ref a0), none, none, none, some (.int b4), none, none] [] w (k189 b4 w)) (b4 : Int32) (w : aW) : Ev rvI M_X4_two 189 [some (.ref a0), none, none, none, some (.int b4), none, none] [] w (c_X4_two_189 a0 a1 a2 a3 k189 b4 w) := by
  unfold c_X4_two_189
  refine e_iload (pc := 189) dX4_two_189 rfl ?_
  refine e_iconst (pc := 191) dX4_two_191 kc_4 ?_
  refine e_icmp_ge (pc := 192) (tgt := 290) dX4_two_192 (by decide) (fun _ => ?_) (fun _ => ?_)
  · refine e_bipush (pc := 290) dX4_two_290 kb_m4 ?_
    exact e_iret (pc := 292) dX4_two_292 rfl rfl
  · refine e_iconst (pc := 195) dX4_two_195 kc_2 ?_
    refine e_iconst (pc := 196) dX4_two_196 kc_1 ?_
    refine e_iload (pc := 197) dX4_two_197 rfl ?_
    refine e_iconst (pc := 199) dX4_two_199 kc_2 ?_
    refine e_idiv (pc := 200) dX4_two_200 (by decide) ?_
    refine e_isub (pc := 201) dX4_two_201 ?_
    refine e_imul (pc := 202) dX4_two_202 ?_
    refine e_iload (pc := 203) dX4_two_203 rfl ?_
    refine e_iconst (pc := 205) dX4_two_205 kc_2 ?_
    refine e_irem (pc := 206) dX4_two_206 (by decide) ?_
    refine e_iadd (pc := 207) dX4_two_207 ?_
    refine e_istore (L' := [some (.ref a0), none, none, none, some (.int b4), some (.int (((2 : Int32) * ((1 : Int32) - (b4 / (2 : Int32)))) + (b4 - b4 / (2 : Int32) * (2 : Int32)))), none]) (pc := 208) dX4_two_208 (by decide) rfl ?_
    refine e_iconst (pc := 210) dX4_two_210 kc_2 ?_
    refine e_iload (pc := 211) dX4_two_211 rfl ?_
    refine e_iconst (pc := 213) dX4_two_213 kc_2 ?_
    refine e_idiv (pc := 214) dX4_two_214 (by decide) ?_
    refine e_imul (pc := 215) dX4_two_215 ?_
    refine e_iconst (pc := 216) dX4_two_216 kc_1 ?_
    refine e_iadd (pc := 217) dX4_two_217 ?_
    refine e_iload (pc := 218) dX4_two_218 rfl ?_
    refine e_iconst (pc := 220) dX4_two_220 kc_2 ?_
    refine e_irem (pc := 221) dX4_two_221 (by decide) ?_
    refine e_isub (pc := 222) dX4_two_222 ?_
    refine e_istore (L' := [some (.ref a0), none, none, none, some (.int b4), some (.int (((2 : Int32) * ((1 : Int32) - (b4 / (2 : Int32)))) + (b4 - b4 / (2 : Int32) * (2 : Int32)))), some (.int ((((2 : Int32) * (b4 / (2 : Int32))) + (1 : Int32)) - (b4 - b4 / (2 : Int32) * (2 : Int32))))]) (pc := 223) dX4_two_223 (by decide) rfl ?_
    refine e_aload_n (pc := 225) dX4_two_225 rfl rfl ?_
    refine e_getR (pc := 226) dX4_two_226 hs_X4_74 (fun r16 => ?_)
    refine e_iconst (pc := 229) dX4_two_229 kc_2 ?_
    refine e_iload (pc := 230) dX4_two_230 rfl ?_
    refine e_imul (pc := 232) dX4_two_232 ?_
    refine e_iald (pc := 233) dX4_two_233 (fun x17 => ?_)
    refine e_aload_n (pc := 234) dX4_two_234 rfl rfl ?_
    refine e_getR (pc := 235) dX4_two_235 hs_X4_74 (fun r18 => ?_)
    refine e_iconst (pc := 238) dX4_two_238 kc_2 ?_
    refine e_iload (pc := 239) dX4_two_239 rfl ?_
    refine e_imul (pc := 241) dX4_two_241 ?_
    refine e_iald (pc := 242) dX4_two_242 (fun x19 => ?_)
    refine e_icmp_lt (pc := 243) (tgt := 284) dX4_two_243 (by decide) (fun _ => ?_) (fun _ => ?_)
    · refine e_iinc (L' := [some (.ref a0), none, none, none, some (.int (b4 + 1)), some (.int (((2 : Int32) * ((1 : Int32) - (b4 / (2 : Int32)))) + (b4 - b4 / (2 : Int32) * (2 : Int32)))), some (.int ((((2 : Int32) * (b4 / (2 : Int32))) + (1 : Int32)) - (b4 - b4 / (2 : Int32) * (2 : Int32))))]) (pc := 284) (v := 1) dX4_two_284 (by decide) rfl kc_1 rfl ?_
      refine e_goto (pc := 287) (tgt := 189) dX4_two_287 (by decide) ?_
      refine e_forget (L2 := [some (.ref a0), none, none, none, some (.int (b4 + 1)), none, none]) (And.intro rfl (And.intro rfl trivial)) ?_
      exact hk189 (b4 + 1) w
    · refine e_aload_n (pc := 246) dX4_two_246 rfl rfl ?_
      refine e_getR (pc := 247) dX4_two_247 hs_X4_74 (fun r20 => ?_)
      refine e_iconst (pc := 250) dX4_two_250 kc_2 ?_
      refine e_iload (pc := 251) dX4_two_251 rfl ?_
      refine e_imul (pc := 253) dX4_two_253 ?_
      refine e_iconst (pc := 254) dX4_two_254 kc_1 ?_
      refine e_iadd (pc := 255) dX4_two_255 ?_
      refine e_iald (pc := 256) dX4_two_256 (fun x21 => ?_)
      refine e_aload_n (pc := 257) dX4_two_257 rfl rfl ?_
      refine e_getR (pc := 258) dX4_two_258 hs_X4_74 (fun r22 => ?_)
      refine e_iconst (pc := 261) dX4_two_261 kc_2 ?_
      refine e_iload (pc := 262) dX4_two_262 rfl ?_
      refine e_imul (pc := 264) dX4_two_264 ?_
      refine e_iconst (pc := 265) dX4_two_265 kc_1 ?_
      refine e_iadd (pc := 266) dX4_two_266 ?_
      refine e_iald (pc := 267) dX4_two_267 (fun x23 => ?_)
      refine e_icmp_lt (pc := 268) (tgt := 284) dX4_two_268 (by decide) (fun _ => ?_) (fun _ => ?_)
      · refine e_iinc (L' := [some (.ref a0), none, none, none, some (.int (b4 + 1)), some (.int (((2 : Int32) * ((1 : Int32) - (b4 / (2 : Int32)))) + (b4 - b4 / (2 : Int32) * (2 : Int32)))), some (.int ((((2 : Int32) * (b4 / (2 : Int32))) + (1 : Int32)) - (b4 - b4 / (2 : Int32) * (2 : Int32))))]) (pc := 284) (v := 1) dX4_two_284 (by decide) rfl kc_1 rfl ?_
        refine e_goto (pc := 287) (tgt := 189) dX4_two_287 (by decide) ?_
        refine e_forget (L2 := [some (.ref a0), none, none, none, some (.int (b4 + 1)), none, none]) (And.intro rfl (And.intro rfl trivial)) ?_
        exact hk189 (b4 + 1) w
      · refine e_bipush (pc := 271) dX4_two_271 kb_10 ?_
        refine e_iload (pc := 273) dX4_two_273 rfl ?_
        refine e_iconst (pc := 275) dX4_two_275 kc_2 ?_
        refine e_idiv (pc := 276) dX4_two_276 (by decide) ?_
        refine e_imul (pc := 277) dX4_two_277 ?_
        refine e_iload (pc := 278) dX4_two_278 rfl ?_
        refine e_iconst (pc := 280) dX4_two_280 kc_2 ?_
        refine e_irem (pc := 281) dX4_two_281 (by decide) ?_
        refine e_iadd (pc := 282) dX4_two_282 ?_
        exact e_iret (pc := 283) dX4_two_283 rfl rfl
def c_X4_two_114 (a0 : Nat) (a1 : Int32) (a2 : Int32) (a3 : Int32) (k45 : Int32 → aW → Option (Int32 × aW)) (b4 : Int32) (b5 : Int32) (b6 : Int32) (s0 : Int32) (s1 : Int32) (s2 : Nat) (w : aW) : Option (Int32 × aW) :=
  (sA w s2 s1 s0).bind fun w28 =>
  cV 3 w28 a0 (bk (f_X4_goDays a0 a3 w28) fun _ w29 =>
  (gR 3 w29 a0 34).bind fun r30 =>
  (gR 3 w29 a0 7).bind fun r31 =>
  (gA w29 r31 a1).bind fun x32 =>
  (gR 3 w29 a0 10).bind fun r33 =>
  (gA w29 r33 a1).bind fun x34 =>
  (sA w29 r30 ((2 : Int32) * b4) (x32 - ((5 : Int32) * (x34 - b5)))).bind fun w35 =>
  (gR 3 w35 a0 34).bind fun r36 =>
  (gR 3 w35 a0 7).bind fun r37 =>
  (gA w35 r37 a2).bind fun x38 =>
  (gR 3 w35 a0 10).bind fun r39 =>
  (gA w35 r39 a2).bind fun x40 =>
  (sA w35 r36 (((2 : Int32) * b4) + (1 : Int32)) (x38 - ((5 : Int32) * (x40 - b6)))).bind fun w41 =>
  cV 3 w41 a0 (bk (f_X4_again a0 w41) fun _ w42 =>
  k45 (b4 + 1) w42))
theorem t_X4_two_114 (a0 : Nat) (a1 : Int32) (a2 : Int32) (a3 : Int32) (k45 : Int32 → aW → Option (Int32 × aW)) (hk45 : ∀ (b4 : Int32) (w : aW), Ev rvI M_X4_two 45 [some (.ref a0), some (.int a1), some (.int a2), some (.int a3), some (.int b4), none, none] [] w (k45 b4 w)) (b4 : Int32) (b5 : Int32) (b6 : Int32) (s0 : Int32) (s1 : Int32) (s2 : Nat) (w : aW) : Ev rvI M_X4_two 114 [some (.ref a0), some (.int a1), some (.int a2), some (.int a3), some (.int b4), some (.int b5), some (.int b6)] [.int s0, .int s1, .ref s2] w (c_X4_two_114 a0 a1 a2 a3 k45 b4 b5 b6 s0 s1 s2 w) := by
  unfold c_X4_two_114
  refine e_iast (pc := 114) dX4_two_114 (fun w28 => ?_)
  refine e_aload_n (pc := 115) dX4_two_115 rfl rfl ?_
  refine e_iload_n (pc := 116) dX4_two_116 rfl rfl ?_
  refine e_callV (pc := 117) (av := [.int a3]) (S := []) (c0 := 3) rfl rfl ok_X4_goDays ⟨Nat.le_of_ble_eq_true rfl, Nat.le_of_ble_eq_true rfl⟩ hv_X4_193 dX4_two_117 (s_X4_goDays a0 a3 w28) rfl rfl (Nat.le_of_ble_eq_true rfl) (fun _ w29 => ?_)
  refine e_aload_n (pc := 120) dX4_two_120 rfl rfl ?_
  refine e_getR (pc := 121) dX4_two_121 hs_X4_74 (fun r30 => ?_)
  refine e_iconst (pc := 124) dX4_two_124 kc_2 ?_
  refine e_iload (pc := 125) dX4_two_125 rfl ?_
  refine e_imul (pc := 127) dX4_two_127 ?_
  refine e_aload_n (pc := 128) dX4_two_128 rfl rfl ?_
  refine e_getR (pc := 129) dX4_two_129 hs_X4_25 (fun r31 => ?_)
  refine e_iload_n (pc := 132) dX4_two_132 rfl rfl ?_
  refine e_iald (pc := 133) dX4_two_133 (fun x32 => ?_)
  refine e_iconst (pc := 134) dX4_two_134 kc_5 ?_
  refine e_aload_n (pc := 135) dX4_two_135 rfl rfl ?_
  refine e_getR (pc := 136) dX4_two_136 hs_X4_34 (fun r33 => ?_)
  refine e_iload_n (pc := 139) dX4_two_139 rfl rfl ?_
  refine e_iald (pc := 140) dX4_two_140 (fun x34 => ?_)
  refine e_iload (pc := 141) dX4_two_141 rfl ?_
  refine e_isub (pc := 143) dX4_two_143 ?_
  refine e_imul (pc := 144) dX4_two_144 ?_
  refine e_isub (pc := 145) dX4_two_145 ?_
  refine e_iast (pc := 146) dX4_two_146 (fun w35 => ?_)
  refine e_aload_n (pc := 147) dX4_two_147 rfl rfl ?_
  refine e_getR (pc := 148) dX4_two_148 hs_X4_74 (fun r36 => ?_)
  refine e_iconst (pc := 151) dX4_two_151 kc_2 ?_
  refine e_iload (pc := 152) dX4_two_152 rfl ?_
  refine e_imul (pc := 154) dX4_two_154 ?_
  refine e_iconst (pc := 155) dX4_two_155 kc_1 ?_
  refine e_iadd (pc := 156) dX4_two_156 ?_
  refine e_aload_n (pc := 157) dX4_two_157 rfl rfl ?_
  refine e_getR (pc := 158) dX4_two_158 hs_X4_25 (fun r37 => ?_)
  refine e_iload_n (pc := 161) dX4_two_161 rfl rfl ?_
  refine e_iald (pc := 162) dX4_two_162 (fun x38 => ?_)
  refine e_iconst (pc := 163) dX4_two_163 kc_5 ?_
  refine e_aload_n (pc := 164) dX4_two_164 rfl rfl ?_
  refine e_getR (pc := 165) dX4_two_165 hs_X4_34 (fun r39 => ?_)
  refine e_iload_n (pc := 168) dX4_two_168 rfl rfl ?_
  refine e_iald (pc := 169) dX4_two_169 (fun x40 => ?_)
  refine e_iload (pc := 170) dX4_two_170 rfl ?_
  refine e_isub (pc := 172) dX4_two_172 ?_
  refine e_imul (pc := 173) dX4_two_173 ?_
  refine e_isub (pc := 174) dX4_two_174 ?_
  refine e_iast (pc := 175) dX4_two_175 (fun w41 => ?_)
  refine e_aload_n (pc := 176) dX4_two_176 rfl rfl ?_
  refine e_callV (pc := 177) (av := []) (S := []) (c0 := 3) rfl rfl ok_X4_again ⟨Nat.le_of_ble_eq_true rfl, Nat.le_of_ble_eq_true rfl⟩ hv_X4_227 dX4_two_177 (s_X4_again a0 w41) rfl rfl (Nat.le_of_ble_eq_true rfl) (fun _ w42 => ?_)
  refine e_iinc (L' := [some (.ref a0), some (.int a1), some (.int a2), some (.int a3), some (.int (b4 + 1)), some (.int b5), some (.int b6)]) (pc := 180) (v := 1) dX4_two_180 (by decide) rfl kc_1 rfl ?_
  refine e_goto (pc := 183) (tgt := 45) dX4_two_183 (by decide) ?_
  refine e_forget (L2 := [some (.ref a0), some (.int a1), some (.int a2), some (.int a3), some (.int (b4 + 1)), none, none]) (And.intro rfl (And.intro rfl (And.intro rfl (And.intro rfl (And.intro rfl trivial))))) ?_
  exact hk45 (b4 + 1) w42
def c_X4_two_90 (a0 : Nat) (a1 : Int32) (a2 : Int32) (a3 : Int32) (k45 : Int32 → aW → Option (Int32 × aW)) (b4 : Int32) (b5 : Int32) (b6 : Int32) (s0 : Int32) (s1 : Int32) (s2 : Nat) (w : aW) : Option (Int32 × aW) :=
  (sA w s2 s1 s0).bind fun w24 =>
  (gR 3 w24 a0 9).bind fun r25 =>
  if ¬ (b4 - b4 / (2 : Int32) * (2 : Int32)) = (1 : Int32) then
    c_X4_two_114 a0 a1 a2 a3 k45 b4 b5 b6 (0 : Int32) a2 r25 w24
  else
    (gR 3 w24 a0 9).bind fun r26 =>
    (gA w24 r26 a2).bind fun x27 =>
    c_X4_two_114 a0 a1 a2 a3 k45 b4 b5 b6 x27 a2 r25 w24
theorem t_X4_two_90 (a0 : Nat) (a1 : Int32) (a2 : Int32) (a3 : Int32) (k45 : Int32 → aW → Option (Int32 × aW)) (hk45 : ∀ (b4 : Int32) (w : aW), Ev rvI M_X4_two 45 [some (.ref a0), some (.int a1), some (.int a2), some (.int a3), some (.int b4), none, none] [] w (k45 b4 w)) (b4 : Int32) (b5 : Int32) (b6 : Int32) (s0 : Int32) (s1 : Int32) (s2 : Nat) (w : aW) : Ev rvI M_X4_two 90 [some (.ref a0), some (.int a1), some (.int a2), some (.int a3), some (.int b4), some (.int b5), some (.int b6)] [.int s0, .int s1, .ref s2] w (c_X4_two_90 a0 a1 a2 a3 k45 b4 b5 b6 s0 s1 s2 w) := by
  unfold c_X4_two_90
  refine e_iast (pc := 90) dX4_two_90 (fun w24 => ?_)
  refine e_aload_n (pc := 91) dX4_two_91 rfl rfl ?_
  refine e_getR (pc := 92) dX4_two_92 hs_X4_31 (fun r25 => ?_)
  refine e_iload_n (pc := 95) dX4_two_95 rfl rfl ?_
  refine e_iload (pc := 96) dX4_two_96 rfl ?_
  refine e_iconst (pc := 98) dX4_two_98 kc_2 ?_
  refine e_irem (pc := 99) dX4_two_99 (by decide) ?_
  refine e_iconst (pc := 100) dX4_two_100 kc_1 ?_
  refine e_icmp_ne (pc := 101) (tgt := 113) dX4_two_101 (by decide) (fun _ => ?_) (fun _ => ?_)
  · refine e_iconst (pc := 113) dX4_two_113 kc_0 ?_
    exact t_X4_two_114 a0 a1 a2 a3 k45 hk45 b4 b5 b6 (0 : Int32) a2 r25 w24
  · refine e_aload_n (pc := 104) dX4_two_104 rfl rfl ?_
    refine e_getR (pc := 105) dX4_two_105 hs_X4_31 (fun r26 => ?_)
    refine e_iload_n (pc := 108) dX4_two_108 rfl rfl ?_
    refine e_iald (pc := 109) dX4_two_109 (fun x27 => ?_)
    refine e_goto (pc := 110) (tgt := 114) dX4_two_110 (by decide) ?_
    exact t_X4_two_114 a0 a1 a2 a3 k45 hk45 b4 b5 b6 x27 a2 r25 w24
def c_X4_two_45 (a0 : Nat) (a1 : Int32) (a2 : Int32) (a3 : Int32) (k45 : Int32 → aW → Option (Int32 × aW)) (b4 : Int32) (w : aW) : Option (Int32 × aW) :=
  if (4 : Int32) ≤ b4 then
    loop2 (c_X4_two_189 a0 a1 a2 a3) a_fuel (0 : Int32) w
  else
    (gR 3 w a0 10).bind fun r9 =>
    (gA w r9 a1).bind fun x10 =>
    (gR 3 w a0 10).bind fun r11 =>
    (gA w r11 a2).bind fun x12 =>
    (gR 3 w a0 9).bind fun r13 =>
    if ¬ (b4 / (2 : Int32)) = (1 : Int32) then
      c_X4_two_90 a0 a1 a2 a3 k45 b4 x10 x12 (0 : Int32) a1 r13 w
    else
      (gR 3 w a0 9).bind fun r14 =>
      (gA w r14 a1).bind fun x15 =>
      c_X4_two_90 a0 a1 a2 a3 k45 b4 x10 x12 x15 a1 r13 w
theorem t_X4_two_45 (a0 : Nat) (a1 : Int32) (a2 : Int32) (a3 : Int32) (k45 : Int32 → aW → Option (Int32 × aW)) (hk45 : ∀ (b4 : Int32) (w : aW), Ev rvI M_X4_two 45 [some (.ref a0), some (.int a1), some (.int a2), some (.int a3), some (.int b4), none, none] [] w (k45 b4 w)) (b4 : Int32) (w : aW) : Ev rvI M_X4_two 45 [some (.ref a0), some (.int a1), some (.int a2), some (.int a3), some (.int b4), none, none] [] w (c_X4_two_45 a0 a1 a2 a3 k45 b4 w) := by
  unfold c_X4_two_45
  refine e_iload (pc := 45) dX4_two_45 rfl ?_
  refine e_iconst (pc := 47) dX4_two_47 kc_4 ?_
  refine e_icmp_ge (pc := 48) (tgt := 186) dX4_two_48 (by decide) (fun _ => ?_) (fun _ => ?_)
  · refine e_iconst (pc := 186) dX4_two_186 kc_0 ?_
    refine e_istore (L' := [some (.ref a0), some (.int a1), some (.int a2), some (.int a3), some (.int (0 : Int32)), none, none]) (pc := 187) dX4_two_187 (by decide) rfl ?_
    refine e_forget (L2 := [some (.ref a0), none, none, none, some (.int (0 : Int32)), none, none]) (And.intro rfl (And.intro rfl trivial)) ?_
    exact e_loop2 (L := fun b4 => [some (.ref a0), none, none, none, some (.int b4), none, none]) (S := fun b4 => []) (fun kf hkf => t_X4_two_189 a0 a1 a2 a3  kf hkf) _ (0 : Int32) w
  · refine e_aload_n (pc := 51) dX4_two_51 rfl rfl ?_
    refine e_getR (pc := 52) dX4_two_52 hs_X4_34 (fun r9 => ?_)
    refine e_iload_n (pc := 55) dX4_two_55 rfl rfl ?_
    refine e_iald (pc := 56) dX4_two_56 (fun x10 => ?_)
    refine e_istore (L' := [some (.ref a0), some (.int a1), some (.int a2), some (.int a3), some (.int b4), some (.int x10), none]) (pc := 57) dX4_two_57 (by decide) rfl ?_
    refine e_aload_n (pc := 59) dX4_two_59 rfl rfl ?_
    refine e_getR (pc := 60) dX4_two_60 hs_X4_34 (fun r11 => ?_)
    refine e_iload_n (pc := 63) dX4_two_63 rfl rfl ?_
    refine e_iald (pc := 64) dX4_two_64 (fun x12 => ?_)
    refine e_istore (L' := [some (.ref a0), some (.int a1), some (.int a2), some (.int a3), some (.int b4), some (.int x10), some (.int x12)]) (pc := 65) dX4_two_65 (by decide) rfl ?_
    refine e_aload_n (pc := 67) dX4_two_67 rfl rfl ?_
    refine e_getR (pc := 68) dX4_two_68 hs_X4_31 (fun r13 => ?_)
    refine e_iload_n (pc := 71) dX4_two_71 rfl rfl ?_
    refine e_iload (pc := 72) dX4_two_72 rfl ?_
    refine e_iconst (pc := 74) dX4_two_74 kc_2 ?_
    refine e_idiv (pc := 75) dX4_two_75 (by decide) ?_
    refine e_iconst (pc := 76) dX4_two_76 kc_1 ?_
    refine e_icmp_ne (pc := 77) (tgt := 89) dX4_two_77 (by decide) (fun _ => ?_) (fun _ => ?_)
    · refine e_iconst (pc := 89) dX4_two_89 kc_0 ?_
      exact t_X4_two_90 a0 a1 a2 a3 k45 hk45 b4 x10 x12 (0 : Int32) a1 r13 w
    · refine e_aload_n (pc := 80) dX4_two_80 rfl rfl ?_
      refine e_getR (pc := 81) dX4_two_81 hs_X4_31 (fun r14 => ?_)
      refine e_iload_n (pc := 84) dX4_two_84 rfl rfl ?_
      refine e_iald (pc := 85) dX4_two_85 (fun x15 => ?_)
      refine e_goto (pc := 86) (tgt := 90) dX4_two_86 (by decide) ?_
      exact t_X4_two_90 a0 a1 a2 a3 k45 hk45 b4 x10 x12 x15 a1 r13 w
def f_X4_two (a0 : Nat) (a1 : Int32) (a2 : Int32) (a3 : Int32) (w : aW) : Option (Int32 × aW) :=
  (sF 3 w a0 19 (.int (0 : Int32))).bind fun w1 =>
  bk (f_X4_isPerson a1 w1) fun x3 w2 =>
  if x3 = (0 : Int32) then
    some ((-1 : Int32), w2)
  else
    bk (f_X4_isPerson a2 w2) fun x5 w4 =>
    if x5 = (0 : Int32) then
      some ((-1 : Int32), w4)
    else
      if a1 = a2 then
        some ((-1 : Int32), w4)
      else
        bk (f_X4_in a3.toInt64 (1 : Int64) (30 : Int64) w4) fun x7 w6 =>
        if ¬ x7 = (0 : Int32) then
          cV 3 w6 a0 (bk (f_X4_think a0 w6) fun _ w8 =>
          loop2 (c_X4_two_45 a0 a1 a2 a3) a_fuel (0 : Int32) w8)
        else
          some ((-1 : Int32), w6)
theorem s_X4_two (a0 : Nat) (a1 : Int32) (a2 : Int32) (a3 : Int32) (w : aW) : Sp rvI M_X4_two [.ref a0, .int a1, .int a2, .int a3] w (f_X4_two a0 a1 a2 a3 w) := by
  refine e_entry [some (.ref a0), some (.int a1), some (.int a2), some (.int a3), none, none, none] (by decide +kernel) (Nat.le_of_ble_eq_true rfl) (fun _ => rfl) ?_
  unfold f_X4_two
  refine e_aload_n (pc := 0) dX4_two_0 rfl rfl ?_
  refine e_iconst (pc := 1) dX4_two_1 kc_0 ?_
  refine e_put (pc := 2) dX4_two_2 hw_X4_80 (fun _ => rfl) (fun _ => rfl) (fun w1 => ?_)
  refine e_iload_n (pc := 5) dX4_two_5 rfl rfl ?_
  refine e_callS (pc := 6) (av := [.int a1]) (S := []) ok_X4_isPerson ⟨Nat.le_of_ble_eq_true rfl, Nat.le_of_ble_eq_true rfl⟩ ht_X4_188 dX4_two_6 (s_X4_isPerson a1 w1) rfl rfl (Nat.le_of_ble_eq_true rfl) (fun x3 w2 => ?_)
  refine e_if_eq (pc := 9) (tgt := 36) dX4_two_9 (by decide) (fun _ => ?_) (fun _ => ?_)
  · refine e_iconst (pc := 36) dX4_two_36 kc_m1 ?_
    exact e_iret (pc := 37) dX4_two_37 rfl rfl
  · refine e_iload_n (pc := 12) dX4_two_12 rfl rfl ?_
    refine e_callS (pc := 13) (av := [.int a2]) (S := []) ok_X4_isPerson ⟨Nat.le_of_ble_eq_true rfl, Nat.le_of_ble_eq_true rfl⟩ ht_X4_188 dX4_two_13 (s_X4_isPerson a2 w2) rfl rfl (Nat.le_of_ble_eq_true rfl) (fun x5 w4 => ?_)
    refine e_if_eq (pc := 16) (tgt := 36) dX4_two_16 (by decide) (fun _ => ?_) (fun _ => ?_)
    · refine e_iconst (pc := 36) dX4_two_36 kc_m1 ?_
      exact e_iret (pc := 37) dX4_two_37 rfl rfl
    · refine e_iload_n (pc := 19) dX4_two_19 rfl rfl ?_
      refine e_iload_n (pc := 20) dX4_two_20 rfl rfl ?_
      refine e_icmp_eq (pc := 21) (tgt := 36) dX4_two_21 (by decide) (fun _ => ?_) (fun _ => ?_)
      · refine e_iconst (pc := 36) dX4_two_36 kc_m1 ?_
        exact e_iret (pc := 37) dX4_two_37 rfl rfl
      · refine e_iload_n (pc := 24) dX4_two_24 rfl rfl ?_
        refine e_i2l (pc := 25) dX4_two_25 ?_
        refine e_lconst (pc := 26) (v := 1) dX4_two_26 (by decide) ?_
        refine e_ldc2 (pc := 27) (v := 30) dX4_two_27 (a_in 1254 (by decide +kernel) rfl) ?_
        refine e_callS (pc := 30) (av := [.long a3.toInt64, .long (1 : Int64), .long (30 : Int64)]) (S := []) ok_X4_in ⟨Nat.le_of_ble_eq_true rfl, Nat.le_of_ble_eq_true rfl⟩ ht_X4_86 dX4_two_30 (s_X4_in a3.toInt64 (1 : Int64) (30 : Int64) w4) rfl rfl (Nat.le_of_ble_eq_true rfl) (fun x7 w6 => ?_)
        refine e_if_ne (pc := 33) (tgt := 38) dX4_two_33 (by decide) (fun _ => ?_) (fun _ => ?_)
        · refine e_aload_n (pc := 38) dX4_two_38 rfl rfl ?_
          refine e_callV (pc := 39) (av := []) (S := []) (c0 := 3) rfl rfl ok_X4_think ⟨Nat.le_of_ble_eq_true rfl, Nat.le_of_ble_eq_true rfl⟩ hv_X4_221 dX4_two_39 (s_X4_think a0 w6) rfl rfl (Nat.le_of_ble_eq_true rfl) (fun _ w8 => ?_)
          refine e_iconst (pc := 42) dX4_two_42 kc_0 ?_
          refine e_istore (L' := [some (.ref a0), some (.int a1), some (.int a2), some (.int a3), some (.int (0 : Int32)), none, none]) (pc := 43) dX4_two_43 (by decide) rfl ?_
          exact e_loop2 (L := fun b4 => [some (.ref a0), some (.int a1), some (.int a2), some (.int a3), some (.int b4), none, none]) (S := fun b4 => []) (fun kf hkf => t_X4_two_45 a0 a1 a2 a3  kf hkf) _ (0 : Int32) w8
        · refine e_iconst (pc := 36) dX4_two_36 kc_m1 ?_
          exact e_iret (pc := 37) dX4_two_37 rfl rfl
def M_X4_divisor : aM := (yX4_divisor, cX4_divisor, 10, (some .long), 0, 0)
theorem ok_X4_divisor : a_okM M_X4_divisor 2 := ⟨⟨by decide +kernel, by decide +kernel⟩, by decide +kernel, a_in 1369 (by decide +kernel) rfl, a_in 79 (by decide +kernel) rfl⟩
theorem dX4_divisor_0 : decode M_X4_divisor.2.1 0 = .ok (.lload_n 0, 1) := by decide +kernel
theorem dX4_divisor_1 : decode M_X4_divisor.2.1 1 = .ok (.lstore 4, 2) := by decide +kernel
theorem dX4_divisor_3 : decode M_X4_divisor.2.1 3 = .ok (.lload_n 2, 1) := by decide +kernel
theorem dX4_divisor_4 : decode M_X4_divisor.2.1 4 = .ok (.lstore 6, 2) := by decide +kernel
theorem dX4_divisor_6 : decode M_X4_divisor.2.1 6 = .ok (.lload 6, 2) := by decide +kernel
theorem dX4_divisor_8 : decode M_X4_divisor.2.1 8 = .ok (.lconst 0, 1) := by decide +kernel
theorem dX4_divisor_9 : decode M_X4_divisor.2.1 9 = .ok (.lcmp, 1) := by decide +kernel
theorem dX4_divisor_10 : decode M_X4_divisor.2.1 10 = .ok (.ifCond .eq 21, 3) := by decide +kernel
theorem dX4_divisor_13 : decode M_X4_divisor.2.1 13 = .ok (.lload 4, 2) := by decide +kernel
theorem dX4_divisor_15 : decode M_X4_divisor.2.1 15 = .ok (.lload 6, 2) := by decide +kernel
theorem dX4_divisor_17 : decode M_X4_divisor.2.1 17 = .ok (.lrem, 1) := by decide +kernel
theorem dX4_divisor_18 : decode M_X4_divisor.2.1 18 = .ok (.lstore 8, 2) := by decide +kernel
theorem dX4_divisor_20 : decode M_X4_divisor.2.1 20 = .ok (.lload 6, 2) := by decide +kernel
theorem dX4_divisor_22 : decode M_X4_divisor.2.1 22 = .ok (.lstore 4, 2) := by decide +kernel
theorem dX4_divisor_24 : decode M_X4_divisor.2.1 24 = .ok (.lload 8, 2) := by decide +kernel
theorem dX4_divisor_26 : decode M_X4_divisor.2.1 26 = .ok (.lstore 6, 2) := by decide +kernel
theorem dX4_divisor_28 : decode M_X4_divisor.2.1 28 = .ok (.goto (-22), 3) := by decide +kernel
theorem dX4_divisor_31 : decode M_X4_divisor.2.1 31 = .ok (.lload 4, 2) := by decide +kernel
theorem dX4_divisor_33 : decode M_X4_divisor.2.1 33 = .ok (.lreturn, 1) := by decide +kernel
def c_X4_divisor_6 (a0 : Int64) (a2 : Int64) (k6 : Int64 → Int64 → aW → Option (Int64 × aW)) (b4 : Int64) (b6 : Int64) (w : aW) : Option (Int64 × aW) :=
  if (lg_cmp b6 (0 : Int64)) = (0 : Int32) then
    some (b4, w)
  else
    if b6 = 0 then none else
    k6 b6 (b4 - b4 / b6 * b6) w
theorem t_X4_divisor_6 (a0 : Int64) (a2 : Int64) (k6 : Int64 → Int64 → aW → Option (Int64 × aW)) (hk6 : ∀ (b4 : Int64) (b6 : Int64) (w : aW), Ev rvL M_X4_divisor 6 [none, none, none, none, some (.long b4), none, some (.long b6), none, none, none] [] w (k6 b4 b6 w)) (b4 : Int64) (b6 : Int64) (w : aW) : Ev rvL M_X4_divisor 6 [none, none, none, none, some (.long b4), none, some (.long b6), none, none, none] [] w (c_X4_divisor_6 a0 a2 k6 b4 b6 w) := by
  unfold c_X4_divisor_6
  refine e_lload (pc := 6) dX4_divisor_6 rfl ?_
  refine e_lconst (pc := 8) (v := 0) dX4_divisor_8 (by decide) ?_
  refine e_lcmp (pc := 9) dX4_divisor_9 ?_
  refine e_if_eq (pc := 10) (tgt := 31) dX4_divisor_10 (by decide) (fun _ => ?_) (fun _ => ?_)
  · refine e_lload (pc := 31) dX4_divisor_31 rfl ?_
    exact e_lret (pc := 33) dX4_divisor_33 rfl
  · refine e_lload (pc := 13) dX4_divisor_13 rfl ?_
    refine e_lload (pc := 15) dX4_divisor_15 rfl ?_
    refine e_chk (fun h1 => ?_)
    refine e_lrem (pc := 17) dX4_divisor_17 h1 ?_
    refine e_lstore (L' := [none, none, none, none, some (.long b4), none, some (.long b6), none, some (.long (b4 - b4 / b6 * b6)), none]) (pc := 18) dX4_divisor_18 (by decide) rfl ?_
    refine e_lload (pc := 20) dX4_divisor_20 rfl ?_
    refine e_lstore (L' := [none, none, none, none, some (.long b6), none, some (.long b6), none, some (.long (b4 - b4 / b6 * b6)), none]) (pc := 22) dX4_divisor_22 (by decide) rfl ?_
    refine e_lload (pc := 24) dX4_divisor_24 rfl ?_
    refine e_lstore (L' := [none, none, none, none, some (.long b6), none, some (.long (b4 - b4 / b6 * b6)), none, some (.long (b4 - b4 / b6 * b6)), none]) (pc := 26) dX4_divisor_26 (by decide) rfl ?_
    refine e_goto (pc := 28) (tgt := 6) dX4_divisor_28 (by decide) ?_
    refine e_forget (L2 := [none, none, none, none, some (.long b6), none, some (.long (b4 - b4 / b6 * b6)), none, none, none]) (And.intro rfl (And.intro rfl trivial)) ?_
    exact hk6 b6 (b4 - b4 / b6 * b6) w
def f_X4_divisor (a0 : Int64) (a2 : Int64) (w : aW) : Option (Int64 × aW) :=
  loop3 (c_X4_divisor_6 a0 a2) a_fuel a0 a2 w
theorem s_X4_divisor (a0 : Int64) (a2 : Int64) (w : aW) : Sp rvL M_X4_divisor [.long a0, .long a2] w (f_X4_divisor a0 a2 w) := by
  refine e_entry [some (.long a0), none, some (.long a2), none, none, none, none, none, none, none] (by decide +kernel) (Nat.le_of_ble_eq_true rfl) (fun _ => rfl) ?_
  unfold f_X4_divisor
  refine e_lload_n (pc := 0) dX4_divisor_0 rfl rfl ?_
  refine e_lstore (L' := [some (.long a0), none, some (.long a2), none, some (.long a0), none, none, none, none, none]) (pc := 1) dX4_divisor_1 (by decide) rfl ?_
  refine e_lload_n (pc := 3) dX4_divisor_3 rfl rfl ?_
  refine e_lstore (L' := [some (.long a0), none, some (.long a2), none, some (.long a0), none, some (.long a2), none, none, none]) (pc := 4) dX4_divisor_4 (by decide) rfl ?_
  refine e_forget (L2 := [none, none, none, none, some (.long a0), none, some (.long a2), none, none, none]) (And.intro rfl (And.intro rfl trivial)) ?_
  exact e_loop3 (L := fun b4 b6 => [none, none, none, none, some (.long b4), none, some (.long b6), none, none, none]) (S := fun b4 b6 => []) (fun kf hkf => t_X4_divisor_6 a0 a2  kf hkf) _ a0 a2 w
def M_X4_partOf : aM := (yX4_partOf, cX4_partOf, 7, (some .long), 1, 29)
theorem ok_X4_partOf : a_okM M_X4_partOf 3 := ⟨⟨by decide +kernel, by decide +kernel⟩, by decide +kernel, a_in 1366 (by decide +kernel) rfl, a_in 79 (by decide +kernel) rfl⟩
theorem dX4_partOf_0 : decode M_X4_partOf.2.1 0 = .ok (.lload_n 0, 1) := by decide +kernel
theorem dX4_partOf_1 : decode M_X4_partOf.2.1 1 = .ok (.lconst 0, 1) := by decide +kernel
theorem dX4_partOf_2 : decode M_X4_partOf.2.1 2 = .ok (.lcmp, 1) := by decide +kernel
theorem dX4_partOf_3 : decode M_X4_partOf.2.1 3 = .ok (.ifCond .ne 7, 3) := by decide +kernel
theorem dX4_partOf_6 : decode M_X4_partOf.2.1 6 = .ok (.iload 4, 2) := by decide +kernel
theorem dX4_partOf_8 : decode M_X4_partOf.2.1 8 = .ok (.i2l, 1) := by decide +kernel
theorem dX4_partOf_9 : decode M_X4_partOf.2.1 9 = .ok (.lreturn, 1) := by decide +kernel
theorem dX4_partOf_10 : decode M_X4_partOf.2.1 10 = .ok (.lload_n 0, 1) := by decide +kernel
theorem dX4_partOf_11 : decode M_X4_partOf.2.1 11 = .ok (.lload_n 2, 1) := by decide +kernel
theorem dX4_partOf_12 : decode M_X4_partOf.2.1 12 = .ok (.invokestatic 346, 3) := by decide +kernel
theorem dX4_partOf_15 : decode M_X4_partOf.2.1 15 = .ok (.lstore 5, 2) := by decide +kernel
theorem dX4_partOf_17 : decode M_X4_partOf.2.1 17 = .ok (.iload 4, 2) := by decide +kernel
theorem dX4_partOf_19 : decode M_X4_partOf.2.1 19 = .ok (.ifCond .ne 10, 3) := by decide +kernel
theorem dX4_partOf_22 : decode M_X4_partOf.2.1 22 = .ok (.lload_n 0, 1) := by decide +kernel
theorem dX4_partOf_23 : decode M_X4_partOf.2.1 23 = .ok (.lload 5, 2) := by decide +kernel
theorem dX4_partOf_25 : decode M_X4_partOf.2.1 25 = .ok (.ldiv, 1) := by decide +kernel
theorem dX4_partOf_26 : decode M_X4_partOf.2.1 26 = .ok (.goto 7, 3) := by decide +kernel
theorem dX4_partOf_29 : decode M_X4_partOf.2.1 29 = .ok (.lload_n 2, 1) := by decide +kernel
theorem dX4_partOf_30 : decode M_X4_partOf.2.1 30 = .ok (.lload 5, 2) := by decide +kernel
theorem dX4_partOf_32 : decode M_X4_partOf.2.1 32 = .ok (.ldiv, 1) := by decide +kernel
theorem dX4_partOf_33 : decode M_X4_partOf.2.1 33 = .ok (.lreturn, 1) := by decide +kernel
theorem ht_X4_346 : a_okS RX4 M_X4_divisor 346 := ⟨a_in 1367 (by decide +kernel) rfl, a_in 1368 (by decide +kernel) rfl⟩
def f_X4_partOf (a0 : Int64) (a2 : Int64) (a4 : Int32) (w : aW) : Option (Int64 × aW) :=
  if ¬ (lg_cmp a0 (0 : Int64)) = (0 : Int32) then
    bk (f_X4_divisor a0 a2 w) fun x2 w1 =>
    if ¬ a4 = (0 : Int32) then
      if x2 = 0 then none else
      some ((a2 / x2), w1)
    else
      if x2 = 0 then none else
      some ((a0 / x2), w1)
  else
    some (a4.toInt64, w)
theorem s_X4_partOf (a0 : Int64) (a2 : Int64) (a4 : Int32) (w : aW) : Sp rvL M_X4_partOf [.long a0, .long a2, .int a4] w (f_X4_partOf a0 a2 a4 w) := by
  refine e_entry [some (.long a0), none, some (.long a2), none, some (.int a4), none, none] (by decide +kernel) (Nat.le_of_ble_eq_true rfl) (fun _ => rfl) ?_
  unfold f_X4_partOf
  refine e_lload_n (pc := 0) dX4_partOf_0 rfl rfl ?_
  refine e_lconst (pc := 1) (v := 0) dX4_partOf_1 (by decide) ?_
  refine e_lcmp (pc := 2) dX4_partOf_2 ?_
  refine e_if_ne (pc := 3) (tgt := 10) dX4_partOf_3 (by decide) (fun _ => ?_) (fun _ => ?_)
  · refine e_lload_n (pc := 10) dX4_partOf_10 rfl rfl ?_
    refine e_lload_n (pc := 11) dX4_partOf_11 rfl rfl ?_
    refine e_callS (pc := 12) (av := [.long a0, .long a2]) (S := []) ok_X4_divisor ⟨Nat.le_of_ble_eq_true rfl, Nat.le_of_ble_eq_true rfl⟩ ht_X4_346 dX4_partOf_12 (s_X4_divisor a0 a2 w) rfl rfl (Nat.le_of_ble_eq_true rfl) (fun x2 w1 => ?_)
    refine e_lstore (L' := [some (.long a0), none, some (.long a2), none, some (.int a4), some (.long x2), none]) (pc := 15) dX4_partOf_15 (by decide) rfl ?_
    refine e_iload (pc := 17) dX4_partOf_17 rfl ?_
    refine e_if_ne (pc := 19) (tgt := 29) dX4_partOf_19 (by decide) (fun _ => ?_) (fun _ => ?_)
    · refine e_lload_n (pc := 29) dX4_partOf_29 rfl rfl ?_
      refine e_lload (pc := 30) dX4_partOf_30 rfl ?_
      refine e_chk (fun h3 => ?_)
      refine e_ldiv (pc := 32) dX4_partOf_32 h3 ?_
      exact e_lret (pc := 33) dX4_partOf_33 rfl
    · refine e_lload_n (pc := 22) dX4_partOf_22 rfl rfl ?_
      refine e_lload (pc := 23) dX4_partOf_23 rfl ?_
      refine e_chk (fun h4 => ?_)
      refine e_ldiv (pc := 25) dX4_partOf_25 h4 ?_
      refine e_goto (pc := 26) (tgt := 33) dX4_partOf_26 (by decide) ?_
      exact e_lret (pc := 33) dX4_partOf_33 rfl
  · refine e_iload (pc := 6) dX4_partOf_6 rfl ?_
    refine e_i2l (pc := 8) dX4_partOf_8 ?_
    exact e_lret (pc := 9) dX4_partOf_9 rfl
def M_X4_snow : aM := (yX4_snow, cX4_snow, 13, (some .long), 5, 113)
theorem ok_X4_snow : a_okM M_X4_snow 4 := ⟨⟨by decide +kernel, by decide +kernel⟩, by decide +kernel, a_in 1362 (by decide +kernel) rfl, a_in 79 (by decide +kernel) rfl⟩
theorem dX4_snow_0 : decode M_X4_snow.2.1 0 = .ok (.aload_n 0, 1) := by decide +kernel
theorem dX4_snow_1 : decode M_X4_snow.2.1 1 = .ok (.iconst 0, 1) := by decide +kernel
theorem dX4_snow_2 : decode M_X4_snow.2.1 2 = .ok (.putfield 80, 3) := by decide +kernel
theorem dX4_snow_5 : decode M_X4_snow.2.1 5 = .ok (.aload_n 0, 1) := by decide +kernel
theorem dX4_snow_6 : decode M_X4_snow.2.1 6 = .ok (.iload_n 1, 1) := by decide +kernel
theorem dX4_snow_7 : decode M_X4_snow.2.1 7 = .ok (.invokevirtual 185, 3) := by decide +kernel
theorem dX4_snow_10 : decode M_X4_snow.2.1 10 = .ok (.ifCond .eq 40, 3) := by decide +kernel
theorem dX4_snow_13 : decode M_X4_snow.2.1 13 = .ok (.iload_n 2, 1) := by decide +kernel
theorem dX4_snow_14 : decode M_X4_snow.2.1 14 = .ok (.i2l, 1) := by decide +kernel
theorem dX4_snow_15 : decode M_X4_snow.2.1 15 = .ok (.lconst 0, 1) := by decide +kernel
theorem dX4_snow_16 : decode M_X4_snow.2.1 16 = .ok (.ldc2_w 262, 3) := by decide +kernel
theorem dX4_snow_19 : decode M_X4_snow.2.1 19 = .ok (.invokestatic 86, 3) := by decide +kernel
theorem dX4_snow_22 : decode M_X4_snow.2.1 22 = .ok (.ifCond .eq 28, 3) := by decide +kernel
theorem dX4_snow_25 : decode M_X4_snow.2.1 25 = .ok (.iload_n 3, 1) := by decide +kernel
theorem dX4_snow_26 : decode M_X4_snow.2.1 26 = .ok (.i2l, 1) := by decide +kernel
theorem dX4_snow_27 : decode M_X4_snow.2.1 27 = .ok (.ldc2_w 274, 3) := by decide +kernel
theorem dX4_snow_30 : decode M_X4_snow.2.1 30 = .ok (.ldc2_w 310, 3) := by decide +kernel
theorem dX4_snow_33 : decode M_X4_snow.2.1 33 = .ok (.invokestatic 86, 3) := by decide +kernel
theorem dX4_snow_36 : decode M_X4_snow.2.1 36 = .ok (.ifCond .eq 14, 3) := by decide +kernel
theorem dX4_snow_39 : decode M_X4_snow.2.1 39 = .ok (.iload 4, 2) := by decide +kernel
theorem dX4_snow_41 : decode M_X4_snow.2.1 41 = .ok (.i2l, 1) := by decide +kernel
theorem dX4_snow_42 : decode M_X4_snow.2.1 42 = .ok (.lconst 0, 1) := by decide +kernel
theorem dX4_snow_43 : decode M_X4_snow.2.1 43 = .ok (.lconst 1, 1) := by decide +kernel
theorem dX4_snow_44 : decode M_X4_snow.2.1 44 = .ok (.invokestatic 86, 3) := by decide +kernel
theorem dX4_snow_47 : decode M_X4_snow.2.1 47 = .ok (.ifCond .ne 7, 3) := by decide +kernel
theorem dX4_snow_50 : decode M_X4_snow.2.1 50 = .ok (.ldc2_w 350, 3) := by decide +kernel
theorem dX4_snow_53 : decode M_X4_snow.2.1 53 = .ok (.lreturn, 1) := by decide +kernel
theorem dX4_snow_54 : decode M_X4_snow.2.1 54 = .ok (.lconst 0, 1) := by decide +kernel
theorem dX4_snow_55 : decode M_X4_snow.2.1 55 = .ok (.lstore 5, 2) := by decide +kernel
theorem dX4_snow_57 : decode M_X4_snow.2.1 57 = .ok (.lconst 1, 1) := by decide +kernel
theorem dX4_snow_58 : decode M_X4_snow.2.1 58 = .ok (.lstore 7, 2) := by decide +kernel
theorem dX4_snow_60 : decode M_X4_snow.2.1 60 = .ok (.iconst 0, 1) := by decide +kernel
theorem dX4_snow_61 : decode M_X4_snow.2.1 61 = .ok (.istore 9, 2) := by decide +kernel
theorem dX4_snow_63 : decode M_X4_snow.2.1 63 = .ok (.iload 9, 2) := by decide +kernel
theorem dX4_snow_65 : decode M_X4_snow.2.1 65 = .ok (.iload_n 2, 1) := by decide +kernel
theorem dX4_snow_66 : decode M_X4_snow.2.1 66 = .ok (.if_icmp .ge 16, 3) := by decide +kernel
theorem dX4_snow_69 : decode M_X4_snow.2.1 69 = .ok (.lload 7, 2) := by decide +kernel
theorem dX4_snow_71 : decode M_X4_snow.2.1 71 = .ok (.iload_n 3, 1) := by decide +kernel
theorem dX4_snow_72 : decode M_X4_snow.2.1 72 = .ok (.i2l, 1) := by decide +kernel
theorem dX4_snow_73 : decode M_X4_snow.2.1 73 = .ok (.lmul, 1) := by decide +kernel
theorem dX4_snow_74 : decode M_X4_snow.2.1 74 = .ok (.lstore 7, 2) := by decide +kernel
theorem dX4_snow_76 : decode M_X4_snow.2.1 76 = .ok (.iinc 9 1, 3) := by decide +kernel
theorem dX4_snow_79 : decode M_X4_snow.2.1 79 = .ok (.goto (-16), 3) := by decide +kernel
theorem dX4_snow_82 : decode M_X4_snow.2.1 82 = .ok (.aload_n 0, 1) := by decide +kernel
theorem dX4_snow_83 : decode M_X4_snow.2.1 83 = .ok (.invokevirtual 221, 3) := by decide +kernel
theorem dX4_snow_86 : decode M_X4_snow.2.1 86 = .ok (.iconst 0, 1) := by decide +kernel
theorem dX4_snow_87 : decode M_X4_snow.2.1 87 = .ok (.istore 9, 2) := by decide +kernel
theorem dX4_snow_89 : decode M_X4_snow.2.1 89 = .ok (.iload 9, 2) := by decide +kernel
theorem dX4_snow_91 : decode M_X4_snow.2.1 91 = .ok (.iconst 1, 1) := by decide +kernel
theorem dX4_snow_92 : decode M_X4_snow.2.1 92 = .ok (.iload_n 2, 1) := by decide +kernel
theorem dX4_snow_93 : decode M_X4_snow.2.1 93 = .ok (.ishl, 1) := by decide +kernel
theorem dX4_snow_94 : decode M_X4_snow.2.1 94 = .ok (.if_icmp .ge 99, 3) := by decide +kernel
theorem dX4_snow_97 : decode M_X4_snow.2.1 97 = .ok (.lconst 1, 1) := by decide +kernel
theorem dX4_snow_98 : decode M_X4_snow.2.1 98 = .ok (.lstore 10, 2) := by decide +kernel
theorem dX4_snow_100 : decode M_X4_snow.2.1 100 = .ok (.iconst 0, 1) := by decide +kernel
theorem dX4_snow_101 : decode M_X4_snow.2.1 101 = .ok (.istore 12, 2) := by decide +kernel
theorem dX4_snow_103 : decode M_X4_snow.2.1 103 = .ok (.iload 12, 2) := by decide +kernel
theorem dX4_snow_105 : decode M_X4_snow.2.1 105 = .ok (.iload_n 2, 1) := by decide +kernel
theorem dX4_snow_106 : decode M_X4_snow.2.1 106 = .ok (.if_icmp .ge 55, 3) := by decide +kernel
theorem dX4_snow_109 : decode M_X4_snow.2.1 109 = .ok (.lload 10, 2) := by decide +kernel
theorem dX4_snow_111 : decode M_X4_snow.2.1 111 = .ok (.iload 9, 2) := by decide +kernel
theorem dX4_snow_113 : decode M_X4_snow.2.1 113 = .ok (.iload 12, 2) := by decide +kernel
theorem dX4_snow_115 : decode M_X4_snow.2.1 115 = .ok (.invokestatic 110, 3) := by decide +kernel
theorem dX4_snow_118 : decode M_X4_snow.2.1 118 = .ok (.ifCond .eq 7, 3) := by decide +kernel
theorem dX4_snow_121 : decode M_X4_snow.2.1 121 = .ok (.lconst 1, 1) := by decide +kernel
theorem dX4_snow_122 : decode M_X4_snow.2.1 122 = .ok (.goto 7, 3) := by decide +kernel
theorem dX4_snow_125 : decode M_X4_snow.2.1 125 = .ok (.iload_n 3, 1) := by decide +kernel
theorem dX4_snow_126 : decode M_X4_snow.2.1 126 = .ok (.iconst 1, 1) := by decide +kernel
theorem dX4_snow_127 : decode M_X4_snow.2.1 127 = .ok (.isub, 1) := by decide +kernel
theorem dX4_snow_128 : decode M_X4_snow.2.1 128 = .ok (.i2l, 1) := by decide +kernel
theorem dX4_snow_129 : decode M_X4_snow.2.1 129 = .ok (.lmul, 1) := by decide +kernel
theorem dX4_snow_130 : decode M_X4_snow.2.1 130 = .ok (.lstore 10, 2) := by decide +kernel
theorem dX4_snow_132 : decode M_X4_snow.2.1 132 = .ok (.aload_n 0, 1) := by decide +kernel
theorem dX4_snow_133 : decode M_X4_snow.2.1 133 = .ok (.iload 9, 2) := by decide +kernel
theorem dX4_snow_135 : decode M_X4_snow.2.1 135 = .ok (.iload 12, 2) := by decide +kernel
theorem dX4_snow_137 : decode M_X4_snow.2.1 137 = .ok (.invokestatic 110, 3) := by decide +kernel
theorem dX4_snow_140 : decode M_X4_snow.2.1 140 = .ok (.ifCond .eq 7, 3) := by decide +kernel
theorem dX4_snow_143 : decode M_X4_snow.2.1 143 = .ok (.iconst 2, 1) := by decide +kernel
theorem dX4_snow_144 : decode M_X4_snow.2.1 144 = .ok (.goto 4, 3) := by decide +kernel
theorem dX4_snow_147 : decode M_X4_snow.2.1 147 = .ok (.iconst 0, 1) := by decide +kernel
theorem dX4_snow_148 : decode M_X4_snow.2.1 148 = .ok (.putfield 136, 3) := by decide +kernel
theorem dX4_snow_151 : decode M_X4_snow.2.1 151 = .ok (.aload_n 0, 1) := by decide +kernel
theorem dX4_snow_152 : decode M_X4_snow.2.1 152 = .ok (.invokevirtual 149, 3) := by decide +kernel
theorem dX4_snow_155 : decode M_X4_snow.2.1 155 = .ok (.iinc 12 1, 3) := by decide +kernel
theorem dX4_snow_158 : decode M_X4_snow.2.1 158 = .ok (.goto (-55), 3) := by decide +kernel
theorem dX4_snow_161 : decode M_X4_snow.2.1 161 = .ok (.lload 5, 2) := by decide +kernel
theorem dX4_snow_163 : decode M_X4_snow.2.1 163 = .ok (.aload_n 0, 1) := by decide +kernel
theorem dX4_snow_164 : decode M_X4_snow.2.1 164 = .ok (.getfield 107, 3) := by decide +kernel
theorem dX4_snow_167 : decode M_X4_snow.2.1 167 = .ok (.iload_n 1, 1) := by decide +kernel
theorem dX4_snow_168 : decode M_X4_snow.2.1 168 = .ok (.invokestatic 110, 3) := by decide +kernel
theorem dX4_snow_171 : decode M_X4_snow.2.1 171 = .ok (.ifCond .eq 8, 3) := by decide +kernel
theorem dX4_snow_174 : decode M_X4_snow.2.1 174 = .ok (.lload 10, 2) := by decide +kernel
theorem dX4_snow_176 : decode M_X4_snow.2.1 176 = .ok (.goto 4, 3) := by decide +kernel
theorem dX4_snow_179 : decode M_X4_snow.2.1 179 = .ok (.lconst 0, 1) := by decide +kernel
theorem dX4_snow_180 : decode M_X4_snow.2.1 180 = .ok (.ladd, 1) := by decide +kernel
theorem dX4_snow_181 : decode M_X4_snow.2.1 181 = .ok (.lstore 5, 2) := by decide +kernel
theorem dX4_snow_183 : decode M_X4_snow.2.1 183 = .ok (.aload_n 0, 1) := by decide +kernel
theorem dX4_snow_184 : decode M_X4_snow.2.1 184 = .ok (.invokevirtual 227, 3) := by decide +kernel
theorem dX4_snow_187 : decode M_X4_snow.2.1 187 = .ok (.iinc 9 1, 3) := by decide +kernel
theorem dX4_snow_190 : decode M_X4_snow.2.1 190 = .ok (.goto (-101), 3) := by decide +kernel
theorem dX4_snow_193 : decode M_X4_snow.2.1 193 = .ok (.lload 5, 2) := by decide +kernel
theorem dX4_snow_195 : decode M_X4_snow.2.1 195 = .ok (.lload 7, 2) := by decide +kernel
theorem dX4_snow_197 : decode M_X4_snow.2.1 197 = .ok (.iload 4, 2) := by decide +kernel
theorem dX4_snow_199 : decode M_X4_snow.2.1 199 = .ok (.invokestatic 352, 3) := by decide +kernel
theorem dX4_snow_202 : decode M_X4_snow.2.1 202 = .ok (.lreturn, 1) := by decide +kernel
theorem ht_X4_352 : a_okS RX4 M_X4_partOf 352 := ⟨a_in 1364 (by decide +kernel) rfl, a_in 1365 (by decide +kernel) rfl⟩
def c_X4_snow_129 (a0 : Nat) (a1 : Int32) (a2 : Int32) (a3 : Int32) (a4 : Int32) (k89 : Int64 → Int64 → Int32 → aW → Option (Int64 × aW)) (k103 : Int64 → Int64 → Int32 → Int64 → Int32 → aW → Option (Int64 × aW)) (b5 : Int64) (b7 : Int64) (b9 : Int32) (b12 : Int32) (s0 : Int64) (s1 : Int64) (w : aW) : Option (Int64 × aW) :=
  bk (f_X4_hasBit b9 b12 w) fun x21 w20 =>
  if x21 = (0 : Int32) then
    (sF 3 w20 a0 12 (.int (0 : Int32))).bind fun w22 =>
    cV 3 w22 a0 (bk (f_X4_dayOn a0 w22) fun _ w23 =>
    k103 b5 b7 b9 (s1 * s0) (b12 + 1) w23)
  else
    (sF 3 w20 a0 12 (.int (2 : Int32))).bind fun w24 =>
    cV 3 w24 a0 (bk (f_X4_dayOn a0 w24) fun _ w25 =>
    k103 b5 b7 b9 (s1 * s0) (b12 + 1) w25)
theorem t_X4_snow_129 (a0 : Nat) (a1 : Int32) (a2 : Int32) (a3 : Int32) (a4 : Int32) (k89 : Int64 → Int64 → Int32 → aW → Option (Int64 × aW)) (hk89 : ∀ (b5 : Int64) (b7 : Int64) (b9 : Int32) (w : aW), Ev rvL M_X4_snow 89 [some (.ref a0), some (.int a1), some (.int a2), some (.int a3), some (.int a4), some (.long b5), none, some (.long b7), none, some (.int b9), none, none, none] [] w (k89 b5 b7 b9 w)) (k103 : Int64 → Int64 → Int32 → Int64 → Int32 → aW → Option (Int64 × aW)) (hk103 : ∀ (b5 : Int64) (b7 : Int64) (b9 : Int32) (b10 : Int64) (b12 : Int32) (w : aW), Ev rvL M_X4_snow 103 [some (.ref a0), some (.int a1), some (.int a2), some (.int a3), some (.int a4), some (.long b5), none, some (.long b7), none, some (.int b9), some (.long b10), none, some (.int b12)] [] w (k103 b5 b7 b9 b10 b12 w)) (b5 : Int64) (b7 : Int64) (b9 : Int32) (b12 : Int32) (s0 : Int64) (s1 : Int64) (w : aW) : Ev rvL M_X4_snow 129 [some (.ref a0), some (.int a1), some (.int a2), some (.int a3), some (.int a4), some (.long b5), none, some (.long b7), none, some (.int b9), none, none, some (.int b12)] [.long s0, .long s1] w (c_X4_snow_129 a0 a1 a2 a3 a4 k89 k103 b5 b7 b9 b12 s0 s1 w) := by
  unfold c_X4_snow_129
  refine e_lmul (pc := 129) dX4_snow_129 ?_
  refine e_lstore (L' := [some (.ref a0), some (.int a1), some (.int a2), some (.int a3), some (.int a4), some (.long b5), none, some (.long b7), none, some (.int b9), some (.long (s1 * s0)), none, some (.int b12)]) (pc := 130) dX4_snow_130 (by decide) rfl ?_
  refine e_aload_n (pc := 132) dX4_snow_132 rfl rfl ?_
  refine e_iload (pc := 133) dX4_snow_133 rfl ?_
  refine e_iload (pc := 135) dX4_snow_135 rfl ?_
  refine e_callS (pc := 137) (av := [.int b9, .int b12]) (S := [.ref a0]) ok_X4_hasBit ⟨Nat.le_of_ble_eq_true rfl, Nat.le_of_ble_eq_true rfl⟩ ht_X4_110 dX4_snow_137 (s_X4_hasBit b9 b12 w) rfl rfl (Nat.le_of_ble_eq_true rfl) (fun x21 w20 => ?_)
  refine e_if_eq (pc := 140) (tgt := 147) dX4_snow_140 (by decide) (fun _ => ?_) (fun _ => ?_)
  · refine e_iconst (pc := 147) dX4_snow_147 kc_0 ?_
    refine e_put (pc := 148) dX4_snow_148 hw_X4_136 (fun _ => rfl) (fun _ => rfl) (fun w22 => ?_)
    refine e_aload_n (pc := 151) dX4_snow_151 rfl rfl ?_
    refine e_callV (pc := 152) (av := []) (S := []) (c0 := 3) rfl rfl ok_X4_dayOn ⟨Nat.le_of_ble_eq_true rfl, Nat.le_of_ble_eq_true rfl⟩ hv_X4_149 dX4_snow_152 (s_X4_dayOn a0 w22) rfl rfl (Nat.le_of_ble_eq_true rfl) (fun _ w23 => ?_)
    refine e_iinc (L' := [some (.ref a0), some (.int a1), some (.int a2), some (.int a3), some (.int a4), some (.long b5), none, some (.long b7), none, some (.int b9), some (.long (s1 * s0)), none, some (.int (b12 + 1))]) (pc := 155) (v := 1) dX4_snow_155 (by decide) rfl kc_1 rfl ?_
    refine e_goto (pc := 158) (tgt := 103) dX4_snow_158 (by decide) ?_
    exact hk103 b5 b7 b9 (s1 * s0) (b12 + 1) w23
  · refine e_iconst (pc := 143) dX4_snow_143 kc_2 ?_
    refine e_goto (pc := 144) (tgt := 148) dX4_snow_144 (by decide) ?_
    refine e_put (pc := 148) dX4_snow_148 hw_X4_136 (fun _ => rfl) (fun _ => rfl) (fun w24 => ?_)
    refine e_aload_n (pc := 151) dX4_snow_151 rfl rfl ?_
    refine e_callV (pc := 152) (av := []) (S := []) (c0 := 3) rfl rfl ok_X4_dayOn ⟨Nat.le_of_ble_eq_true rfl, Nat.le_of_ble_eq_true rfl⟩ hv_X4_149 dX4_snow_152 (s_X4_dayOn a0 w24) rfl rfl (Nat.le_of_ble_eq_true rfl) (fun _ w25 => ?_)
    refine e_iinc (L' := [some (.ref a0), some (.int a1), some (.int a2), some (.int a3), some (.int a4), some (.long b5), none, some (.long b7), none, some (.int b9), some (.long (s1 * s0)), none, some (.int (b12 + 1))]) (pc := 155) (v := 1) dX4_snow_155 (by decide) rfl kc_1 rfl ?_
    refine e_goto (pc := 158) (tgt := 103) dX4_snow_158 (by decide) ?_
    exact hk103 b5 b7 b9 (s1 * s0) (b12 + 1) w25
def c_X4_snow_103 (a0 : Nat) (a1 : Int32) (a2 : Int32) (a3 : Int32) (a4 : Int32) (k89 : Int64 → Int64 → Int32 → aW → Option (Int64 × aW)) (k103 : Int64 → Int64 → Int32 → Int64 → Int32 → aW → Option (Int64 × aW)) (b5 : Int64) (b7 : Int64) (b9 : Int32) (b10 : Int64) (b12 : Int32) (w : aW) : Option (Int64 × aW) :=
  if a2 ≤ b12 then
    (gI 3 w a0 6).bind fun x13 =>
    bk (f_X4_hasBit x13 a1 w) fun x15 w14 =>
    if x15 = (0 : Int32) then
      cV 3 w14 a0 (bk (f_X4_again a0 w14) fun _ w16 =>
      k89 (b5 + (0 : Int64)) b7 (b9 + 1) w16)
    else
      cV 3 w14 a0 (bk (f_X4_again a0 w14) fun _ w17 =>
      k89 (b5 + b10) b7 (b9 + 1) w17)
  else
    bk (f_X4_hasBit b9 b12 w) fun x19 w18 =>
    if x19 = (0 : Int32) then
      c_X4_snow_129 a0 a1 a2 a3 a4 k89 k103 b5 b7 b9 b12 ((a3 - (1 : Int32)).toInt64) b10 w18
    else
      c_X4_snow_129 a0 a1 a2 a3 a4 k89 k103 b5 b7 b9 b12 (1 : Int64) b10 w18
theorem t_X4_snow_103 (a0 : Nat) (a1 : Int32) (a2 : Int32) (a3 : Int32) (a4 : Int32) (k89 : Int64 → Int64 → Int32 → aW → Option (Int64 × aW)) (hk89 : ∀ (b5 : Int64) (b7 : Int64) (b9 : Int32) (w : aW), Ev rvL M_X4_snow 89 [some (.ref a0), some (.int a1), some (.int a2), some (.int a3), some (.int a4), some (.long b5), none, some (.long b7), none, some (.int b9), none, none, none] [] w (k89 b5 b7 b9 w)) (k103 : Int64 → Int64 → Int32 → Int64 → Int32 → aW → Option (Int64 × aW)) (hk103 : ∀ (b5 : Int64) (b7 : Int64) (b9 : Int32) (b10 : Int64) (b12 : Int32) (w : aW), Ev rvL M_X4_snow 103 [some (.ref a0), some (.int a1), some (.int a2), some (.int a3), some (.int a4), some (.long b5), none, some (.long b7), none, some (.int b9), some (.long b10), none, some (.int b12)] [] w (k103 b5 b7 b9 b10 b12 w)) (b5 : Int64) (b7 : Int64) (b9 : Int32) (b10 : Int64) (b12 : Int32) (w : aW) : Ev rvL M_X4_snow 103 [some (.ref a0), some (.int a1), some (.int a2), some (.int a3), some (.int a4), some (.long b5), none, some (.long b7), none, some (.int b9), some (.long b10), none, some (.int b12)] [] w (c_X4_snow_103 a0 a1 a2 a3 a4 k89 k103 b5 b7 b9 b10 b12 w) := by
  unfold c_X4_snow_103
  refine e_iload (pc := 103) dX4_snow_103 rfl ?_
  refine e_iload_n (pc := 105) dX4_snow_105 rfl rfl ?_
  refine e_icmp_ge (pc := 106) (tgt := 161) dX4_snow_106 (by decide) (fun _ => ?_) (fun _ => ?_)
  · refine e_lload (pc := 161) dX4_snow_161 rfl ?_
    refine e_aload_n (pc := 163) dX4_snow_163 rfl rfl ?_
    refine e_getI (pc := 164) dX4_snow_164 hs_X4_107 (fun x13 => ?_)
    refine e_iload_n (pc := 167) dX4_snow_167 rfl rfl ?_
    refine e_callS (pc := 168) (av := [.int x13, .int a1]) (S := [.long b5]) ok_X4_hasBit ⟨Nat.le_of_ble_eq_true rfl, Nat.le_of_ble_eq_true rfl⟩ ht_X4_110 dX4_snow_168 (s_X4_hasBit x13 a1 w) rfl rfl (Nat.le_of_ble_eq_true rfl) (fun x15 w14 => ?_)
    refine e_if_eq (pc := 171) (tgt := 179) dX4_snow_171 (by decide) (fun _ => ?_) (fun _ => ?_)
    · refine e_lconst (pc := 179) (v := 0) dX4_snow_179 (by decide) ?_
      refine e_ladd (pc := 180) dX4_snow_180 ?_
      refine e_lstore (L' := [some (.ref a0), some (.int a1), some (.int a2), some (.int a3), some (.int a4), some (.long (b5 + (0 : Int64))), none, some (.long b7), none, some (.int b9), some (.long b10), none, some (.int b12)]) (pc := 181) dX4_snow_181 (by decide) rfl ?_
      refine e_aload_n (pc := 183) dX4_snow_183 rfl rfl ?_
      refine e_callV (pc := 184) (av := []) (S := []) (c0 := 3) rfl rfl ok_X4_again ⟨Nat.le_of_ble_eq_true rfl, Nat.le_of_ble_eq_true rfl⟩ hv_X4_227 dX4_snow_184 (s_X4_again a0 w14) rfl rfl (Nat.le_of_ble_eq_true rfl) (fun _ w16 => ?_)
      refine e_iinc (L' := [some (.ref a0), some (.int a1), some (.int a2), some (.int a3), some (.int a4), some (.long (b5 + (0 : Int64))), none, some (.long b7), none, some (.int (b9 + 1)), some (.long b10), none, some (.int b12)]) (pc := 187) (v := 1) dX4_snow_187 (by decide) rfl kc_1 rfl ?_
      refine e_goto (pc := 190) (tgt := 89) dX4_snow_190 (by decide) ?_
      refine e_forget (L2 := [some (.ref a0), some (.int a1), some (.int a2), some (.int a3), some (.int a4), some (.long (b5 + (0 : Int64))), none, some (.long b7), none, some (.int (b9 + 1)), none, none, none]) (And.intro rfl (And.intro rfl (And.intro rfl (And.intro rfl (And.intro rfl (And.intro rfl (And.intro rfl (And.intro rfl trivial)))))))) ?_
      exact hk89 (b5 + (0 : Int64)) b7 (b9 + 1) w16
    · refine e_lload (pc := 174) dX4_snow_174 rfl ?_
      refine e_goto (pc := 176) (tgt := 180) dX4_snow_176 (by decide) ?_
      refine e_ladd (pc := 180) dX4_snow_180 ?_
      refine e_lstore (L' := [some (.ref a0), some (.int a1), some (.int a2), some (.int a3), some (.int a4), some (.long (b5 + b10)), none, some (.long b7), none, some (.int b9), some (.long b10), none, some (.int b12)]) (pc := 181) dX4_snow_181 (by decide) rfl ?_
      refine e_aload_n (pc := 183) dX4_snow_183 rfl rfl ?_
      refine e_callV (pc := 184) (av := []) (S := []) (c0 := 3) rfl rfl ok_X4_again ⟨Nat.le_of_ble_eq_true rfl, Nat.le_of_ble_eq_true rfl⟩ hv_X4_227 dX4_snow_184 (s_X4_again a0 w14) rfl rfl (Nat.le_of_ble_eq_true rfl) (fun _ w17 => ?_)
      refine e_iinc (L' := [some (.ref a0), some (.int a1), some (.int a2), some (.int a3), some (.int a4), some (.long (b5 + b10)), none, some (.long b7), none, some (.int (b9 + 1)), some (.long b10), none, some (.int b12)]) (pc := 187) (v := 1) dX4_snow_187 (by decide) rfl kc_1 rfl ?_
      refine e_goto (pc := 190) (tgt := 89) dX4_snow_190 (by decide) ?_
      refine e_forget (L2 := [some (.ref a0), some (.int a1), some (.int a2), some (.int a3), some (.int a4), some (.long (b5 + b10)), none, some (.long b7), none, some (.int (b9 + 1)), none, none, none]) (And.intro rfl (And.intro rfl (And.intro rfl (And.intro rfl (And.intro rfl (And.intro rfl (And.intro rfl (And.intro rfl trivial)))))))) ?_
      exact hk89 (b5 + b10) b7 (b9 + 1) w17
  · refine e_lload (pc := 109) dX4_snow_109 rfl ?_
    refine e_iload (pc := 111) dX4_snow_111 rfl ?_
    refine e_iload (pc := 113) dX4_snow_113 rfl ?_
    refine e_callS (pc := 115) (av := [.int b9, .int b12]) (S := [.long b10]) ok_X4_hasBit ⟨Nat.le_of_ble_eq_true rfl, Nat.le_of_ble_eq_true rfl⟩ ht_X4_110 dX4_snow_115 (s_X4_hasBit b9 b12 w) rfl rfl (Nat.le_of_ble_eq_true rfl) (fun x19 w18 => ?_)
    refine e_if_eq (pc := 118) (tgt := 125) dX4_snow_118 (by decide) (fun _ => ?_) (fun _ => ?_)
    · refine e_iload_n (pc := 125) dX4_snow_125 rfl rfl ?_
      refine e_iconst (pc := 126) dX4_snow_126 kc_1 ?_
      refine e_isub (pc := 127) dX4_snow_127 ?_
      refine e_i2l (pc := 128) dX4_snow_128 ?_
      refine e_forget (L2 := [some (.ref a0), some (.int a1), some (.int a2), some (.int a3), some (.int a4), some (.long b5), none, some (.long b7), none, some (.int b9), none, none, some (.int b12)]) (And.intro rfl (And.intro rfl (And.intro rfl (And.intro rfl (And.intro rfl (And.intro rfl (And.intro rfl (And.intro rfl (And.intro rfl trivial))))))))) ?_
      exact t_X4_snow_129 a0 a1 a2 a3 a4 k89 hk89 k103 hk103 b5 b7 b9 b12 ((a3 - (1 : Int32)).toInt64) b10 w18
    · refine e_lconst (pc := 121) (v := 1) dX4_snow_121 (by decide) ?_
      refine e_goto (pc := 122) (tgt := 129) dX4_snow_122 (by decide) ?_
      refine e_forget (L2 := [some (.ref a0), some (.int a1), some (.int a2), some (.int a3), some (.int a4), some (.long b5), none, some (.long b7), none, some (.int b9), none, none, some (.int b12)]) (And.intro rfl (And.intro rfl (And.intro rfl (And.intro rfl (And.intro rfl (And.intro rfl (And.intro rfl (And.intro rfl (And.intro rfl trivial))))))))) ?_
      exact t_X4_snow_129 a0 a1 a2 a3 a4 k89 hk89 k103 hk103 b5 b7 b9 b12 (1 : Int64) b10 w18
def c_X4_snow_89 (a0 : Nat) (a1 : Int32) (a2 : Int32) (a3 : Int32) (a4 : Int32) (k89 : Int64 → Int64 → Int32 → aW → Option (Int64 × aW)) (b5 : Int64) (b7 : Int64) (b9 : Int32) (w : aW) : Option (Int64 × aW) :=
  if ((1 : Int32) <<< (a2 &&& 31)) ≤ b9 then
    bk (f_X4_partOf b5 b7 a4 w) fun x12 w11 =>
    some (x12, w11)
  else
    loop6 (c_X4_snow_103 a0 a1 a2 a3 a4 k89) a_fuel b5 b7 b9 (1 : Int64) (0 : Int32) w
theorem t_X4_snow_89 (a0 : Nat) (a1 : Int32) (a2 : Int32) (a3 : Int32) (a4 : Int32) (k89 : Int64 → Int64 → Int32 → aW → Option (Int64 × aW)) (hk89 : ∀ (b5 : Int64) (b7 : Int64) (b9 : Int32) (w : aW), Ev rvL M_X4_snow 89 [some (.ref a0), some (.int a1), some (.int a2), some (.int a3), some (.int a4), some (.long b5), none, some (.long b7), none, some (.int b9), none, none, none] [] w (k89 b5 b7 b9 w)) (b5 : Int64) (b7 : Int64) (b9 : Int32) (w : aW) : Ev rvL M_X4_snow 89 [some (.ref a0), some (.int a1), some (.int a2), some (.int a3), some (.int a4), some (.long b5), none, some (.long b7), none, some (.int b9), none, none, none] [] w (c_X4_snow_89 a0 a1 a2 a3 a4 k89 b5 b7 b9 w) := by
  unfold c_X4_snow_89
  refine e_iload (pc := 89) dX4_snow_89 rfl ?_
  refine e_iconst (pc := 91) dX4_snow_91 kc_1 ?_
  refine e_iload_n (pc := 92) dX4_snow_92 rfl rfl ?_
  refine e_ishl (pc := 93) dX4_snow_93 ?_
  refine e_icmp_ge (pc := 94) (tgt := 193) dX4_snow_94 (by decide) (fun _ => ?_) (fun _ => ?_)
  · refine e_lload (pc := 193) dX4_snow_193 rfl ?_
    refine e_lload (pc := 195) dX4_snow_195 rfl ?_
    refine e_iload (pc := 197) dX4_snow_197 rfl ?_
    refine e_callS (pc := 199) (av := [.long b5, .long b7, .int a4]) (S := []) ok_X4_partOf ⟨Nat.le_of_ble_eq_true rfl, Nat.le_of_ble_eq_true rfl⟩ ht_X4_352 dX4_snow_199 (s_X4_partOf b5 b7 a4 w) rfl rfl (Nat.le_of_ble_eq_true rfl) (fun x12 w11 => ?_)
    exact e_lret (pc := 202) dX4_snow_202 rfl
  · refine e_lconst (pc := 97) (v := 1) dX4_snow_97 (by decide) ?_
    refine e_lstore (L' := [some (.ref a0), some (.int a1), some (.int a2), some (.int a3), some (.int a4), some (.long b5), none, some (.long b7), none, some (.int b9), some (.long (1 : Int64)), none, none]) (pc := 98) dX4_snow_98 (by decide) rfl ?_
    refine e_iconst (pc := 100) dX4_snow_100 kc_0 ?_
    refine e_istore (L' := [some (.ref a0), some (.int a1), some (.int a2), some (.int a3), some (.int a4), some (.long b5), none, some (.long b7), none, some (.int b9), some (.long (1 : Int64)), none, some (.int (0 : Int32))]) (pc := 101) dX4_snow_101 (by decide) rfl ?_
    exact e_loop6 (L := fun b5 b7 b9 b10 b12 => [some (.ref a0), some (.int a1), some (.int a2), some (.int a3), some (.int a4), some (.long b5), none, some (.long b7), none, some (.int b9), some (.long b10), none, some (.int b12)]) (S := fun b5 b7 b9 b10 b12 => []) (fun kf hkf => t_X4_snow_103 a0 a1 a2 a3 a4 k89 hk89 kf hkf) _ b5 b7 b9 (1 : Int64) (0 : Int32) w
def c_X4_snow_63 (a0 : Nat) (a1 : Int32) (a2 : Int32) (a3 : Int32) (a4 : Int32) (k63 : Int64 → Int64 → Int32 → aW → Option (Int64 × aW)) (b5 : Int64) (b7 : Int64) (b9 : Int32) (w : aW) : Option (Int64 × aW) :=
  if a2 ≤ b9 then
    cV 3 w a0 (bk (f_X4_think a0 w) fun _ w10 =>
    loop4 (c_X4_snow_89 a0 a1 a2 a3 a4) a_fuel b5 b7 (0 : Int32) w10)
  else
    k63 b5 (b7 * a3.toInt64) (b9 + 1) w
theorem t_X4_snow_63 (a0 : Nat) (a1 : Int32) (a2 : Int32) (a3 : Int32) (a4 : Int32) (k63 : Int64 → Int64 → Int32 → aW → Option (Int64 × aW)) (hk63 : ∀ (b5 : Int64) (b7 : Int64) (b9 : Int32) (w : aW), Ev rvL M_X4_snow 63 [some (.ref a0), some (.int a1), some (.int a2), some (.int a3), some (.int a4), some (.long b5), none, some (.long b7), none, some (.int b9), none, none, none] [] w (k63 b5 b7 b9 w)) (b5 : Int64) (b7 : Int64) (b9 : Int32) (w : aW) : Ev rvL M_X4_snow 63 [some (.ref a0), some (.int a1), some (.int a2), some (.int a3), some (.int a4), some (.long b5), none, some (.long b7), none, some (.int b9), none, none, none] [] w (c_X4_snow_63 a0 a1 a2 a3 a4 k63 b5 b7 b9 w) := by
  unfold c_X4_snow_63
  refine e_iload (pc := 63) dX4_snow_63 rfl ?_
  refine e_iload_n (pc := 65) dX4_snow_65 rfl rfl ?_
  refine e_icmp_ge (pc := 66) (tgt := 82) dX4_snow_66 (by decide) (fun _ => ?_) (fun _ => ?_)
  · refine e_aload_n (pc := 82) dX4_snow_82 rfl rfl ?_
    refine e_callV (pc := 83) (av := []) (S := []) (c0 := 3) rfl rfl ok_X4_think ⟨Nat.le_of_ble_eq_true rfl, Nat.le_of_ble_eq_true rfl⟩ hv_X4_221 dX4_snow_83 (s_X4_think a0 w) rfl rfl (Nat.le_of_ble_eq_true rfl) (fun _ w10 => ?_)
    refine e_iconst (pc := 86) dX4_snow_86 kc_0 ?_
    refine e_istore (L' := [some (.ref a0), some (.int a1), some (.int a2), some (.int a3), some (.int a4), some (.long b5), none, some (.long b7), none, some (.int (0 : Int32)), none, none, none]) (pc := 87) dX4_snow_87 (by decide) rfl ?_
    exact e_loop4 (L := fun b5 b7 b9 => [some (.ref a0), some (.int a1), some (.int a2), some (.int a3), some (.int a4), some (.long b5), none, some (.long b7), none, some (.int b9), none, none, none]) (S := fun b5 b7 b9 => []) (fun kf hkf => t_X4_snow_89 a0 a1 a2 a3 a4  kf hkf) _ b5 b7 (0 : Int32) w10
  · refine e_lload (pc := 69) dX4_snow_69 rfl ?_
    refine e_iload_n (pc := 71) dX4_snow_71 rfl rfl ?_
    refine e_i2l (pc := 72) dX4_snow_72 ?_
    refine e_lmul (pc := 73) dX4_snow_73 ?_
    refine e_lstore (L' := [some (.ref a0), some (.int a1), some (.int a2), some (.int a3), some (.int a4), some (.long b5), none, some (.long (b7 * a3.toInt64)), none, some (.int b9), none, none, none]) (pc := 74) dX4_snow_74 (by decide) rfl ?_
    refine e_iinc (L' := [some (.ref a0), some (.int a1), some (.int a2), some (.int a3), some (.int a4), some (.long b5), none, some (.long (b7 * a3.toInt64)), none, some (.int (b9 + 1)), none, none, none]) (pc := 76) (v := 1) dX4_snow_76 (by decide) rfl kc_1 rfl ?_
    refine e_goto (pc := 79) (tgt := 63) dX4_snow_79 (by decide) ?_
    exact hk63 b5 (b7 * a3.toInt64) (b9 + 1) w
def f_X4_snow (a0 : Nat) (a1 : Int32) (a2 : Int32) (a3 : Int32) (a4 : Int32) (w : aW) : Option (Int64 × aW) :=
  (sF 3 w a0 19 (.int (0 : Int32))).bind fun w1 =>
  cV 3 w1 a0 (bk (f_X4_isBeast a0 a1 w1) fun x3 w2 =>
  if x3 = (0 : Int32) then
    some ((1000000001 : Int64), w2)
  else
    bk (f_X4_in a2.toInt64 (0 : Int64) (7 : Int64) w2) fun x5 w4 =>
    if x5 = (0 : Int32) then
      some ((1000000001 : Int64), w4)
    else
      bk (f_X4_in a3.toInt64 (2 : Int64) (20 : Int64) w4) fun x7 w6 =>
      if x7 = (0 : Int32) then
        some ((1000000001 : Int64), w6)
      else
        bk (f_X4_in a4.toInt64 (0 : Int64) (1 : Int64) w6) fun x9 w8 =>
        if ¬ x9 = (0 : Int32) then
          loop4 (c_X4_snow_63 a0 a1 a2 a3 a4) a_fuel (0 : Int64) (1 : Int64) (0 : Int32) w8
        else
          some ((1000000001 : Int64), w8))
theorem s_X4_snow (a0 : Nat) (a1 : Int32) (a2 : Int32) (a3 : Int32) (a4 : Int32) (w : aW) : Sp rvL M_X4_snow [.ref a0, .int a1, .int a2, .int a3, .int a4] w (f_X4_snow a0 a1 a2 a3 a4 w) := by
  refine e_entry [some (.ref a0), some (.int a1), some (.int a2), some (.int a3), some (.int a4), none, none, none, none, none, none, none, none] (by decide +kernel) (Nat.le_of_ble_eq_true rfl) (fun _ => rfl) ?_
  unfold f_X4_snow
  refine e_aload_n (pc := 0) dX4_snow_0 rfl rfl ?_
  refine e_iconst (pc := 1) dX4_snow_1 kc_0 ?_
  refine e_put (pc := 2) dX4_snow_2 hw_X4_80 (fun _ => rfl) (fun _ => rfl) (fun w1 => ?_)
  refine e_aload_n (pc := 5) dX4_snow_5 rfl rfl ?_
  refine e_iload_n (pc := 6) dX4_snow_6 rfl rfl ?_
  refine e_callV (pc := 7) (av := [.int a1]) (S := []) (c0 := 3) rfl rfl ok_X4_isBeast ⟨Nat.le_of_ble_eq_true rfl, Nat.le_of_ble_eq_true rfl⟩ hv_X4_185 dX4_snow_7 (s_X4_isBeast a0 a1 w1) rfl rfl (Nat.le_of_ble_eq_true rfl) (fun x3 w2 => ?_)
  refine e_if_eq (pc := 10) (tgt := 50) dX4_snow_10 (by decide) (fun _ => ?_) (fun _ => ?_)
  · refine e_ldc2 (pc := 50) (v := 1000000001) dX4_snow_50 (a_in 1363 (by decide +kernel) rfl) ?_
    exact e_lret (pc := 53) dX4_snow_53 rfl
  · refine e_iload_n (pc := 13) dX4_snow_13 rfl rfl ?_
    refine e_i2l (pc := 14) dX4_snow_14 ?_
    refine e_lconst (pc := 15) (v := 0) dX4_snow_15 (by decide) ?_
    refine e_ldc2 (pc := 16) (v := 7) dX4_snow_16 (a_in 990 (by decide +kernel) rfl) ?_
    refine e_callS (pc := 19) (av := [.long a2.toInt64, .long (0 : Int64), .long (7 : Int64)]) (S := []) ok_X4_in ⟨Nat.le_of_ble_eq_true rfl, Nat.le_of_ble_eq_true rfl⟩ ht_X4_86 dX4_snow_19 (s_X4_in a2.toInt64 (0 : Int64) (7 : Int64) w2) rfl rfl (Nat.le_of_ble_eq_true rfl) (fun x5 w4 => ?_)
    refine e_if_eq (pc := 22) (tgt := 50) dX4_snow_22 (by decide) (fun _ => ?_) (fun _ => ?_)
    · refine e_ldc2 (pc := 50) (v := 1000000001) dX4_snow_50 (a_in 1363 (by decide +kernel) rfl) ?_
      exact e_lret (pc := 53) dX4_snow_53 rfl
    · refine e_iload_n (pc := 25) dX4_snow_25 rfl rfl ?_
      refine e_i2l (pc := 26) dX4_snow_26 ?_
      refine e_ldc2 (pc := 27) (v := 2) dX4_snow_27 (a_in 1204 (by decide +kernel) rfl) ?_
      refine e_ldc2 (pc := 30) (v := 20) dX4_snow_30 (a_in 1280 (by decide +kernel) rfl) ?_
      refine e_callS (pc := 33) (av := [.long a3.toInt64, .long (2 : Int64), .long (20 : Int64)]) (S := []) ok_X4_in ⟨Nat.le_of_ble_eq_true rfl, Nat.le_of_ble_eq_true rfl⟩ ht_X4_86 dX4_snow_33 (s_X4_in a3.toInt64 (2 : Int64) (20 : Int64) w4) rfl rfl (Nat.le_of_ble_eq_true rfl) (fun x7 w6 => ?_)
      refine e_if_eq (pc := 36) (tgt := 50) dX4_snow_36 (by decide) (fun _ => ?_) (fun _ => ?_)
      · refine e_ldc2 (pc := 50) (v := 1000000001) dX4_snow_50 (a_in 1363 (by decide +kernel) rfl) ?_
        exact e_lret (pc := 53) dX4_snow_53 rfl
      · refine e_iload (pc := 39) dX4_snow_39 rfl ?_
        refine e_i2l (pc := 41) dX4_snow_41 ?_
        refine e_lconst (pc := 42) (v := 0) dX4_snow_42 (by decide) ?_
        refine e_lconst (pc := 43) (v := 1) dX4_snow_43 (by decide) ?_
        refine e_callS (pc := 44) (av := [.long a4.toInt64, .long (0 : Int64), .long (1 : Int64)]) (S := []) ok_X4_in ⟨Nat.le_of_ble_eq_true rfl, Nat.le_of_ble_eq_true rfl⟩ ht_X4_86 dX4_snow_44 (s_X4_in a4.toInt64 (0 : Int64) (1 : Int64) w6) rfl rfl (Nat.le_of_ble_eq_true rfl) (fun x9 w8 => ?_)
        refine e_if_ne (pc := 47) (tgt := 54) dX4_snow_47 (by decide) (fun _ => ?_) (fun _ => ?_)
        · refine e_lconst (pc := 54) (v := 0) dX4_snow_54 (by decide) ?_
          refine e_lstore (L' := [some (.ref a0), some (.int a1), some (.int a2), some (.int a3), some (.int a4), some (.long (0 : Int64)), none, none, none, none, none, none, none]) (pc := 55) dX4_snow_55 (by decide) rfl ?_
          refine e_lconst (pc := 57) (v := 1) dX4_snow_57 (by decide) ?_
          refine e_lstore (L' := [some (.ref a0), some (.int a1), some (.int a2), some (.int a3), some (.int a4), some (.long (0 : Int64)), none, some (.long (1 : Int64)), none, none, none, none, none]) (pc := 58) dX4_snow_58 (by decide) rfl ?_
          refine e_iconst (pc := 60) dX4_snow_60 kc_0 ?_
          refine e_istore (L' := [some (.ref a0), some (.int a1), some (.int a2), some (.int a3), some (.int a4), some (.long (0 : Int64)), none, some (.long (1 : Int64)), none, some (.int (0 : Int32)), none, none, none]) (pc := 61) dX4_snow_61 (by decide) rfl ?_
          exact e_loop4 (L := fun b5 b7 b9 => [some (.ref a0), some (.int a1), some (.int a2), some (.int a3), some (.int a4), some (.long b5), none, some (.long b7), none, some (.int b9), none, none, none]) (S := fun b5 b7 b9 => []) (fun kf hkf => t_X4_snow_63 a0 a1 a2 a3 a4  kf hkf) _ (0 : Int64) (1 : Int64) (0 : Int32) w8
        · refine e_ldc2 (pc := 50) (v := 1000000001) dX4_snow_50 (a_in 1363 (by decide +kernel) rfl) ?_
          exact e_lret (pc := 53) dX4_snow_53 rfl
def M_X4_share : aM := (yX4_share, cX4_share, 3, (some .long), 2, 55)
theorem ok_X4_share : a_okM M_X4_share 2 := ⟨⟨by decide +kernel, by decide +kernel⟩, by decide +kernel, a_in 1373 (by decide +kernel) rfl, a_in 79 (by decide +kernel) rfl⟩
theorem dX4_share_0 : decode M_X4_share.2.1 0 = .ok (.aload_n 0, 1) := by decide +kernel
theorem dX4_share_1 : decode M_X4_share.2.1 1 = .ok (.iconst 0, 1) := by decide +kernel
theorem dX4_share_2 : decode M_X4_share.2.1 2 = .ok (.putfield 80, 3) := by decide +kernel
theorem dX4_share_5 : decode M_X4_share.2.1 5 = .ok (.iload_n 1, 1) := by decide +kernel
theorem dX4_share_6 : decode M_X4_share.2.1 6 = .ok (.invokestatic 188, 3) := by decide +kernel
theorem dX4_share_9 : decode M_X4_share.2.1 9 = .ok (.ifCond .eq 13, 3) := by decide +kernel
theorem dX4_share_12 : decode M_X4_share.2.1 12 = .ok (.iload_n 2, 1) := by decide +kernel
theorem dX4_share_13 : decode M_X4_share.2.1 13 = .ok (.i2l, 1) := by decide +kernel
theorem dX4_share_14 : decode M_X4_share.2.1 14 = .ok (.lconst 0, 1) := by decide +kernel
theorem dX4_share_15 : decode M_X4_share.2.1 15 = .ok (.lconst 1, 1) := by decide +kernel
theorem dX4_share_16 : decode M_X4_share.2.1 16 = .ok (.invokestatic 86, 3) := by decide +kernel
theorem dX4_share_19 : decode M_X4_share.2.1 19 = .ok (.ifCond .ne 7, 3) := by decide +kernel
theorem dX4_share_22 : decode M_X4_share.2.1 22 = .ok (.ldc2_w 350, 3) := by decide +kernel
theorem dX4_share_25 : decode M_X4_share.2.1 25 = .ok (.lreturn, 1) := by decide +kernel
theorem dX4_share_26 : decode M_X4_share.2.1 26 = .ok (.aload_n 0, 1) := by decide +kernel
theorem dX4_share_27 : decode M_X4_share.2.1 27 = .ok (.getfield 25, 3) := by decide +kernel
theorem dX4_share_30 : decode M_X4_share.2.1 30 = .ok (.iload_n 1, 1) := by decide +kernel
theorem dX4_share_31 : decode M_X4_share.2.1 31 = .ok (.iaload, 1) := by decide +kernel
theorem dX4_share_32 : decode M_X4_share.2.1 32 = .ok (.i2l, 1) := by decide +kernel
theorem dX4_share_33 : decode M_X4_share.2.1 33 = .ok (.aload_n 0, 1) := by decide +kernel
theorem dX4_share_34 : decode M_X4_share.2.1 34 = .ok (.invokevirtual 356, 3) := by decide +kernel
theorem dX4_share_37 : decode M_X4_share.2.1 37 = .ok (.i2l, 1) := by decide +kernel
theorem dX4_share_38 : decode M_X4_share.2.1 38 = .ok (.iload_n 2, 1) := by decide +kernel
theorem dX4_share_39 : decode M_X4_share.2.1 39 = .ok (.invokestatic 352, 3) := by decide +kernel
theorem dX4_share_42 : decode M_X4_share.2.1 42 = .ok (.lreturn, 1) := by decide +kernel
theorem hv_X4_356 : a_okV RX4 M_X4_allMeans 356 := ⟨a_in 1374 (by decide +kernel) rfl, a_in 1376 (by decide +kernel) rfl, a_in 72 (by decide +kernel) rfl⟩
def f_X4_share (a0 : Nat) (a1 : Int32) (a2 : Int32) (w : aW) : Option (Int64 × aW) :=
  (sF 3 w a0 19 (.int (0 : Int32))).bind fun w1 =>
  bk (f_X4_isPerson a1 w1) fun x3 w2 =>
  if x3 = (0 : Int32) then
    some ((1000000001 : Int64), w2)
  else
    bk (f_X4_in a2.toInt64 (0 : Int64) (1 : Int64) w2) fun x5 w4 =>
    if ¬ x5 = (0 : Int32) then
      (gR 3 w4 a0 7).bind fun r6 =>
      (gA w4 r6 a1).bind fun x7 =>
      cV 3 w4 a0 (bk (f_X4_allMeans a0 w4) fun x9 w8 =>
      bk (f_X4_partOf x7.toInt64 x9.toInt64 a2 w8) fun x11 w10 =>
      some (x11, w10))
    else
      some ((1000000001 : Int64), w4)
theorem s_X4_share (a0 : Nat) (a1 : Int32) (a2 : Int32) (w : aW) : Sp rvL M_X4_share [.ref a0, .int a1, .int a2] w (f_X4_share a0 a1 a2 w) := by
  refine e_entry [some (.ref a0), some (.int a1), some (.int a2)] (by decide +kernel) (Nat.le_of_ble_eq_true rfl) (fun _ => rfl) ?_
  unfold f_X4_share
  refine e_aload_n (pc := 0) dX4_share_0 rfl rfl ?_
  refine e_iconst (pc := 1) dX4_share_1 kc_0 ?_
  refine e_put (pc := 2) dX4_share_2 hw_X4_80 (fun _ => rfl) (fun _ => rfl) (fun w1 => ?_)
  refine e_iload_n (pc := 5) dX4_share_5 rfl rfl ?_
  refine e_callS (pc := 6) (av := [.int a1]) (S := []) ok_X4_isPerson ⟨Nat.le_of_ble_eq_true rfl, Nat.le_of_ble_eq_true rfl⟩ ht_X4_188 dX4_share_6 (s_X4_isPerson a1 w1) rfl rfl (Nat.le_of_ble_eq_true rfl) (fun x3 w2 => ?_)
  refine e_if_eq (pc := 9) (tgt := 22) dX4_share_9 (by decide) (fun _ => ?_) (fun _ => ?_)
  · refine e_ldc2 (pc := 22) (v := 1000000001) dX4_share_22 (a_in 1363 (by decide +kernel) rfl) ?_
    exact e_lret (pc := 25) dX4_share_25 rfl
  · refine e_iload_n (pc := 12) dX4_share_12 rfl rfl ?_
    refine e_i2l (pc := 13) dX4_share_13 ?_
    refine e_lconst (pc := 14) (v := 0) dX4_share_14 (by decide) ?_
    refine e_lconst (pc := 15) (v := 1) dX4_share_15 (by decide) ?_
    refine e_callS (pc := 16) (av := [.long a2.toInt64, .long (0 : Int64), .long (1 : Int64)]) (S := []) ok_X4_in ⟨Nat.le_of_ble_eq_true rfl, Nat.le_of_ble_eq_true rfl⟩ ht_X4_86 dX4_share_16 (s_X4_in a2.toInt64 (0 : Int64) (1 : Int64) w2) rfl rfl (Nat.le_of_ble_eq_true rfl) (fun x5 w4 => ?_)
    refine e_if_ne (pc := 19) (tgt := 26) dX4_share_19 (by decide) (fun _ => ?_) (fun _ => ?_)
    · refine e_aload_n (pc := 26) dX4_share_26 rfl rfl ?_
      refine e_getR (pc := 27) dX4_share_27 hs_X4_25 (fun r6 => ?_)
      refine e_iload_n (pc := 30) dX4_share_30 rfl rfl ?_
      refine e_iald (pc := 31) dX4_share_31 (fun x7 => ?_)
      refine e_i2l (pc := 32) dX4_share_32 ?_
      refine e_aload_n (pc := 33) dX4_share_33 rfl rfl ?_
      refine e_callV (pc := 34) (av := []) (S := [.long x7.toInt64]) (c0 := 3) rfl rfl ok_X4_allMeans ⟨Nat.le_of_ble_eq_true rfl, Nat.le_of_ble_eq_true rfl⟩ hv_X4_356 dX4_share_34 (s_X4_allMeans a0 w4) rfl rfl (Nat.le_of_ble_eq_true rfl) (fun x9 w8 => ?_)
      refine e_i2l (pc := 37) dX4_share_37 ?_
      refine e_iload_n (pc := 38) dX4_share_38 rfl rfl ?_
      refine e_callS (pc := 39) (av := [.long x7.toInt64, .long x9.toInt64, .int a2]) (S := []) ok_X4_partOf ⟨Nat.le_of_ble_eq_true rfl, Nat.le_of_ble_eq_true rfl⟩ ht_X4_352 dX4_share_39 (s_X4_partOf x7.toInt64 x9.toInt64 a2 w8) rfl rfl (Nat.le_of_ble_eq_true rfl) (fun x11 w10 => ?_)
      exact e_lret (pc := 42) dX4_share_42 rfl
    · refine e_ldc2 (pc := 22) (v := 1000000001) dX4_share_22 (a_in 1363 (by decide +kernel) rfl) ?_
      exact e_lret (pc := 25) dX4_share_25 rfl
def M_X4_forged : aM := (yX4_forged, cX4_forged, 4, (some .int), 2, 46)
theorem ok_X4_forged : a_okM M_X4_forged 1 := ⟨⟨by decide +kernel, by decide +kernel⟩, by decide +kernel, a_in 1381 (by decide +kernel) rfl, a_in 79 (by decide +kernel) rfl⟩
theorem dX4_forged_0 : decode M_X4_forged.2.1 0 = .ok (.aload_n 0, 1) := by decide +kernel
theorem dX4_forged_1 : decode M_X4_forged.2.1 1 = .ok (.iconst 0, 1) := by decide +kernel
theorem dX4_forged_2 : decode M_X4_forged.2.1 2 = .ok (.putfield 80, 3) := by decide +kernel
theorem dX4_forged_5 : decode M_X4_forged.2.1 5 = .ok (.aload_n 0, 1) := by decide +kernel
theorem dX4_forged_6 : decode M_X4_forged.2.1 6 = .ok (.iload_n 1, 1) := by decide +kernel
theorem dX4_forged_7 : decode M_X4_forged.2.1 7 = .ok (.invokevirtual 215, 3) := by decide +kernel
theorem dX4_forged_10 : decode M_X4_forged.2.1 10 = .ok (.istore_n 2, 1) := by decide +kernel
theorem dX4_forged_11 : decode M_X4_forged.2.1 11 = .ok (.iload_n 2, 1) := by decide +kernel
theorem dX4_forged_12 : decode M_X4_forged.2.1 12 = .ok (.ifCond .ge 5, 3) := by decide +kernel
theorem dX4_forged_15 : decode M_X4_forged.2.1 15 = .ok (.iload_n 2, 1) := by decide +kernel
theorem dX4_forged_16 : decode M_X4_forged.2.1 16 = .ok (.ireturn, 1) := by decide +kernel
theorem dX4_forged_17 : decode M_X4_forged.2.1 17 = .ok (.iconst 0, 1) := by decide +kernel
theorem dX4_forged_18 : decode M_X4_forged.2.1 18 = .ok (.istore_n 3, 1) := by decide +kernel
theorem dX4_forged_19 : decode M_X4_forged.2.1 19 = .ok (.iload_n 3, 1) := by decide +kernel
theorem dX4_forged_20 : decode M_X4_forged.2.1 20 = .ok (.aload_n 0, 1) := by decide +kernel
theorem dX4_forged_21 : decode M_X4_forged.2.1 21 = .ok (.getfield 49, 3) := by decide +kernel
theorem dX4_forged_24 : decode M_X4_forged.2.1 24 = .ok (.iload_n 1, 1) := by decide +kernel
theorem dX4_forged_25 : decode M_X4_forged.2.1 25 = .ok (.iaload, 1) := by decide +kernel
theorem dX4_forged_26 : decode M_X4_forged.2.1 26 = .ok (.if_icmp .ge 54, 3) := by decide +kernel
theorem dX4_forged_29 : decode M_X4_forged.2.1 29 = .ok (.iload_n 3, 1) := by decide +kernel
theorem dX4_forged_30 : decode M_X4_forged.2.1 30 = .ok (.aload_n 0, 1) := by decide +kernel
theorem dX4_forged_31 : decode M_X4_forged.2.1 31 = .ok (.getfield 92, 3) := by decide +kernel
theorem dX4_forged_34 : decode M_X4_forged.2.1 34 = .ok (.if_icmp .ge 38, 3) := by decide +kernel
theorem dX4_forged_37 : decode M_X4_forged.2.1 37 = .ok (.aload_n 0, 1) := by decide +kernel
theorem dX4_forged_38 : decode M_X4_forged.2.1 38 = .ok (.getfield 52, 3) := by decide +kernel
theorem dX4_forged_41 : decode M_X4_forged.2.1 41 = .ok (.bipush 100, 2) := by decide +kernel
theorem dX4_forged_43 : decode M_X4_forged.2.1 43 = .ok (.iload_n 1, 1) := by decide +kernel
theorem dX4_forged_44 : decode M_X4_forged.2.1 44 = .ok (.imul, 1) := by decide +kernel
theorem dX4_forged_45 : decode M_X4_forged.2.1 45 = .ok (.iload_n 3, 1) := by decide +kernel
theorem dX4_forged_46 : decode M_X4_forged.2.1 46 = .ok (.iadd, 1) := by decide +kernel
theorem dX4_forged_47 : decode M_X4_forged.2.1 47 = .ok (.laload, 1) := by decide +kernel
theorem dX4_forged_48 : decode M_X4_forged.2.1 48 = .ok (.aload_n 0, 1) := by decide +kernel
theorem dX4_forged_49 : decode M_X4_forged.2.1 49 = .ok (.getfield 22, 3) := by decide +kernel
theorem dX4_forged_52 : decode M_X4_forged.2.1 52 = .ok (.iload_n 3, 1) := by decide +kernel
theorem dX4_forged_53 : decode M_X4_forged.2.1 53 = .ok (.iaload, 1) := by decide +kernel
theorem dX4_forged_54 : decode M_X4_forged.2.1 54 = .ok (.ifCond .ge 7, 3) := by decide +kernel
theorem dX4_forged_57 : decode M_X4_forged.2.1 57 = .ok (.iconst 5, 1) := by decide +kernel
theorem dX4_forged_58 : decode M_X4_forged.2.1 58 = .ok (.goto 9, 3) := by decide +kernel
theorem dX4_forged_61 : decode M_X4_forged.2.1 61 = .ok (.aload_n 0, 1) := by decide +kernel
theorem dX4_forged_62 : decode M_X4_forged.2.1 62 = .ok (.getfield 22, 3) := by decide +kernel
theorem dX4_forged_65 : decode M_X4_forged.2.1 65 = .ok (.iload_n 3, 1) := by decide +kernel
theorem dX4_forged_66 : decode M_X4_forged.2.1 66 = .ok (.iaload, 1) := by decide +kernel
theorem dX4_forged_67 : decode M_X4_forged.2.1 67 = .ok (.i2l, 1) := by decide +kernel
theorem dX4_forged_68 : decode M_X4_forged.2.1 68 = .ok (.lcmp, 1) := by decide +kernel
theorem dX4_forged_69 : decode M_X4_forged.2.1 69 = .ok (.ifCond .eq 5, 3) := by decide +kernel
theorem dX4_forged_72 : decode M_X4_forged.2.1 72 = .ok (.iload_n 3, 1) := by decide +kernel
theorem dX4_forged_73 : decode M_X4_forged.2.1 73 = .ok (.ireturn, 1) := by decide +kernel
theorem dX4_forged_74 : decode M_X4_forged.2.1 74 = .ok (.iinc 3 1, 3) := by decide +kernel
theorem dX4_forged_77 : decode M_X4_forged.2.1 77 = .ok (.goto (-58), 3) := by decide +kernel
theorem dX4_forged_80 : decode M_X4_forged.2.1 80 = .ok (.bipush (-4), 2) := by decide +kernel
theorem dX4_forged_82 : decode M_X4_forged.2.1 82 = .ok (.ireturn, 1) := by decide +kernel
def c_X4_forged_19 (a0 : Nat) (a1 : Int32) (k19 : Int32 → aW → Option (Int32 × aW)) (b3 : Int32) (w : aW) : Option (Int32 × aW) :=
  (gR 3 w a0 17).bind fun r4 =>
  (gA w r4 a1).bind fun x5 =>
  if x5 ≤ b3 then
    some ((-4 : Int32), w)
  else
    (gI 3 w a0 0).bind fun x6 =>
    if x6 ≤ b3 then
      some (b3, w)
    else
      (gR 3 w a0 18).bind fun r7 =>
      (gL w r7 (((100 : Int32) * a1) + b3)).bind fun x8 =>
      (gR 3 w a0 5).bind fun r9 =>
      (gA w r9 b3).bind fun x10 =>
      if (0 : Int32) ≤ x10 then
        (gR 3 w a0 5).bind fun r11 =>
        (gA w r11 b3).bind fun x12 =>
        if (lg_cmp x8 x12.toInt64) = (0 : Int32) then
          k19 (b3 + 1) w
        else
          some (b3, w)
      else
        if (lg_cmp x8 ((5 : Int32).toInt64)) = (0 : Int32) then
          k19 (b3 + 1) w
        else
          some (b3, w)
theorem t_X4_forged_19 (a0 : Nat) (a1 : Int32) (k19 : Int32 → aW → Option (Int32 × aW)) (hk19 : ∀ (b3 : Int32) (w : aW), Ev rvI M_X4_forged 19 [some (.ref a0), some (.int a1), none, some (.int b3)] [] w (k19 b3 w)) (b3 : Int32) (w : aW) : Ev rvI M_X4_forged 19 [some (.ref a0), some (.int a1), none, some (.int b3)] [] w (c_X4_forged_19 a0 a1 k19 b3 w) := by
  unfold c_X4_forged_19
  refine e_iload_n (pc := 19) dX4_forged_19 rfl rfl ?_
  refine e_aload_n (pc := 20) dX4_forged_20 rfl rfl ?_
  refine e_getR (pc := 21) dX4_forged_21 hs_X4_49 (fun r4 => ?_)
  refine e_iload_n (pc := 24) dX4_forged_24 rfl rfl ?_
  refine e_iald (pc := 25) dX4_forged_25 (fun x5 => ?_)
  refine e_icmp_ge (pc := 26) (tgt := 80) dX4_forged_26 (by decide) (fun _ => ?_) (fun _ => ?_)
  · refine e_bipush (pc := 80) dX4_forged_80 kb_m4 ?_
    exact e_iret (pc := 82) dX4_forged_82 rfl rfl
  · refine e_iload_n (pc := 29) dX4_forged_29 rfl rfl ?_
    refine e_aload_n (pc := 30) dX4_forged_30 rfl rfl ?_
    refine e_getI (pc := 31) dX4_forged_31 hs_X4_92 (fun x6 => ?_)
    refine e_icmp_ge (pc := 34) (tgt := 72) dX4_forged_34 (by decide) (fun _ => ?_) (fun _ => ?_)
    · refine e_iload_n (pc := 72) dX4_forged_72 rfl rfl ?_
      exact e_iret (pc := 73) dX4_forged_73 rfl rfl
    · refine e_aload_n (pc := 37) dX4_forged_37 rfl rfl ?_
      refine e_getR (pc := 38) dX4_forged_38 hs_X4_52 (fun r7 => ?_)
      refine e_bipush (pc := 41) dX4_forged_41 kb_100 ?_
      refine e_iload_n (pc := 43) dX4_forged_43 rfl rfl ?_
      refine e_imul (pc := 44) dX4_forged_44 ?_
      refine e_iload_n (pc := 45) dX4_forged_45 rfl rfl ?_
      refine e_iadd (pc := 46) dX4_forged_46 ?_
      refine e_lald (pc := 47) dX4_forged_47 (fun x8 => ?_)
      refine e_aload_n (pc := 48) dX4_forged_48 rfl rfl ?_
      refine e_getR (pc := 49) dX4_forged_49 hs_X4_22 (fun r9 => ?_)
      refine e_iload_n (pc := 52) dX4_forged_52 rfl rfl ?_
      refine e_iald (pc := 53) dX4_forged_53 (fun x10 => ?_)
      refine e_if_ge (pc := 54) (tgt := 61) dX4_forged_54 (by decide) (fun _ => ?_) (fun _ => ?_)
      · refine e_aload_n (pc := 61) dX4_forged_61 rfl rfl ?_
        refine e_getR (pc := 62) dX4_forged_62 hs_X4_22 (fun r11 => ?_)
        refine e_iload_n (pc := 65) dX4_forged_65 rfl rfl ?_
        refine e_iald (pc := 66) dX4_forged_66 (fun x12 => ?_)
        refine e_i2l (pc := 67) dX4_forged_67 ?_
        refine e_lcmp (pc := 68) dX4_forged_68 ?_
        refine e_if_eq (pc := 69) (tgt := 74) dX4_forged_69 (by decide) (fun _ => ?_) (fun _ => ?_)
        · refine e_iinc (L' := [some (.ref a0), some (.int a1), none, some (.int (b3 + 1))]) (pc := 74) (v := 1) dX4_forged_74 (by decide) rfl kc_1 rfl ?_
          refine e_goto (pc := 77) (tgt := 19) dX4_forged_77 (by decide) ?_
          exact hk19 (b3 + 1) w
        · refine e_iload_n (pc := 72) dX4_forged_72 rfl rfl ?_
          exact e_iret (pc := 73) dX4_forged_73 rfl rfl
      · refine e_iconst (pc := 57) dX4_forged_57 kc_5 ?_
        refine e_goto (pc := 58) (tgt := 67) dX4_forged_58 (by decide) ?_
        refine e_i2l (pc := 67) dX4_forged_67 ?_
        refine e_lcmp (pc := 68) dX4_forged_68 ?_
        refine e_if_eq (pc := 69) (tgt := 74) dX4_forged_69 (by decide) (fun _ => ?_) (fun _ => ?_)
        · refine e_iinc (L' := [some (.ref a0), some (.int a1), none, some (.int (b3 + 1))]) (pc := 74) (v := 1) dX4_forged_74 (by decide) rfl kc_1 rfl ?_
          refine e_goto (pc := 77) (tgt := 19) dX4_forged_77 (by decide) ?_
          exact hk19 (b3 + 1) w
        · refine e_iload_n (pc := 72) dX4_forged_72 rfl rfl ?_
          exact e_iret (pc := 73) dX4_forged_73 rfl rfl
def f_X4_forged (a0 : Nat) (a1 : Int32) (w : aW) : Option (Int32 × aW) :=
  (sF 3 w a0 19 (.int (0 : Int32))).bind fun w1 =>
  cV 3 w1 a0 (bk (f_X4_wrongRow a0 a1 w1) fun x3 w2 =>
  if (0 : Int32) ≤ x3 then
    loop2 (c_X4_forged_19 a0 a1) a_fuel (0 : Int32) w2
  else
    some (x3, w2))
theorem s_X4_forged (a0 : Nat) (a1 : Int32) (w : aW) : Sp rvI M_X4_forged [.ref a0, .int a1] w (f_X4_forged a0 a1 w) := by
  refine e_entry [some (.ref a0), some (.int a1), none, none] (by decide +kernel) (Nat.le_of_ble_eq_true rfl) (fun _ => rfl) ?_
  unfold f_X4_forged
  refine e_aload_n (pc := 0) dX4_forged_0 rfl rfl ?_
  refine e_iconst (pc := 1) dX4_forged_1 kc_0 ?_
  refine e_put (pc := 2) dX4_forged_2 hw_X4_80 (fun _ => rfl) (fun _ => rfl) (fun w1 => ?_)
  refine e_aload_n (pc := 5) dX4_forged_5 rfl rfl ?_
  refine e_iload_n (pc := 6) dX4_forged_6 rfl rfl ?_
  refine e_callV (pc := 7) (av := [.int a1]) (S := []) (c0 := 3) rfl rfl ok_X4_wrongRow ⟨Nat.le_of_ble_eq_true rfl, Nat.le_of_ble_eq_true rfl⟩ hv_X4_215 dX4_forged_7 (s_X4_wrongRow a0 a1 w1) rfl rfl (Nat.le_of_ble_eq_true rfl) (fun x3 w2 => ?_)
  refine e_istore_n (L' := [some (.ref a0), some (.int a1), some (.int x3), none]) (pc := 10) dX4_forged_10 rfl (by decide) rfl ?_
  refine e_iload_n (pc := 11) dX4_forged_11 rfl rfl ?_
  refine e_if_ge (pc := 12) (tgt := 17) dX4_forged_12 (by decide) (fun _ => ?_) (fun _ => ?_)
  · refine e_iconst (pc := 17) dX4_forged_17 kc_0 ?_
    refine e_istore_n (L' := [some (.ref a0), some (.int a1), some (.int x3), some (.int (0 : Int32))]) (pc := 18) dX4_forged_18 rfl (by decide) rfl ?_
    refine e_forget (L2 := [some (.ref a0), some (.int a1), none, some (.int (0 : Int32))]) (And.intro rfl (And.intro rfl (And.intro rfl trivial))) ?_
    exact e_loop2 (L := fun b3 => [some (.ref a0), some (.int a1), none, some (.int b3)]) (S := fun b3 => []) (fun kf hkf => t_X4_forged_19 a0 a1  kf hkf) _ (0 : Int32) w2
  · refine e_iload_n (pc := 15) dX4_forged_15 rfl rfl ?_
    exact e_iret (pc := 16) dX4_forged_16 rfl rfl
