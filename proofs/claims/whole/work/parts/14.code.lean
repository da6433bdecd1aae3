/-! the decompiled methods: each f_ is what its bytecode does to a world; each s_ ties it to the machine. Written by program (wip/gen/gen.py). -/
def M_X3_next : aM := (yX3_next, cX3_next, 2, (some .int), 4, 101)
theorem ok_X3_next : a_okM M_X3_next 1 := ⟨⟨by decide +kernel, by decide +kernel⟩, by decide +kernel, a_in 496 (by decide +kernel) rfl, a_in 76 (by decide +kernel) rfl⟩
theorem dX3_next_0 : decode M_X3_next.2.1 0 = .ok (.iload_n 1, 1) := by decide +kernel
theorem dX3_next_1 : decode M_X3_next.2.1 1 = .ok (.iconst 0, 1) := by decide +kernel
theorem dX3_next_2 : decode M_X3_next.2.1 2 = .ok (.iconst 2, 1) := by decide +kernel
theorem dX3_next_3 : decode M_X3_next.2.1 3 = .ok (.invokestatic 87, 3) := by decide +kernel
theorem dX3_next_6 : decode M_X3_next.2.1 6 = .ok (.ifCond .ne 5, 3) := by decide +kernel
theorem dX3_next_9 : decode M_X3_next.2.1 9 = .ok (.iconst (-1), 1) := by decide +kernel
theorem dX3_next_10 : decode M_X3_next.2.1 10 = .ok (.ireturn, 1) := by decide +kernel
theorem dX3_next_11 : decode M_X3_next.2.1 11 = .ok (.aload_n 0, 1) := by decide +kernel
theorem dX3_next_12 : decode M_X3_next.2.1 12 = .ok (.invokevirtual 56, 3) := by decide +kernel
theorem dX3_next_15 : decode M_X3_next.2.1 15 = .ok (.aload_n 0, 1) := by decide +kernel
theorem dX3_next_16 : decode M_X3_next.2.1 16 = .ok (.getfield 16, 3) := by decide +kernel
theorem dX3_next_19 : decode M_X3_next.2.1 19 = .ok (.iconst 0, 1) := by decide +kernel
theorem dX3_next_20 : decode M_X3_next.2.1 20 = .ok (.invokevirtual 154, 3) := by decide +kernel
theorem dX3_next_23 : decode M_X3_next.2.1 23 = .ok (.iload_n 1, 1) := by decide +kernel
theorem dX3_next_24 : decode M_X3_next.2.1 24 = .ok (.ifCond .ne 21, 3) := by decide +kernel
theorem dX3_next_27 : decode M_X3_next.2.1 27 = .ok (.aload_n 0, 1) := by decide +kernel
theorem dX3_next_28 : decode M_X3_next.2.1 28 = .ok (.getfield 16, 3) := by decide +kernel
theorem dX3_next_31 : decode M_X3_next.2.1 31 = .ok (.invokevirtual 169, 3) := by decide +kernel
theorem dX3_next_34 : decode M_X3_next.2.1 34 = .ok (.aload_n 0, 1) := by decide +kernel
theorem dX3_next_35 : decode M_X3_next.2.1 35 = .ok (.getfield 10, 3) := by decide +kernel
theorem dX3_next_38 : decode M_X3_next.2.1 38 = .ok (.invokevirtual 169, 3) := by decide +kernel
theorem dX3_next_41 : decode M_X3_next.2.1 41 = .ok (.iconst (-1), 1) := by decide +kernel
theorem dX3_next_42 : decode M_X3_next.2.1 42 = .ok (.ixor, 1) := by decide +kernel
theorem dX3_next_43 : decode M_X3_next.2.1 43 = .ok (.iand, 1) := by decide +kernel
theorem dX3_next_44 : decode M_X3_next.2.1 44 = .ok (.ireturn, 1) := by decide +kernel
theorem dX3_next_45 : decode M_X3_next.2.1 45 = .ok (.iload_n 1, 1) := by decide +kernel
theorem dX3_next_46 : decode M_X3_next.2.1 46 = .ok (.iconst 1, 1) := by decide +kernel
theorem dX3_next_47 : decode M_X3_next.2.1 47 = .ok (.if_icmp .ne 23, 3) := by decide +kernel
theorem dX3_next_50 : decode M_X3_next.2.1 50 = .ok (.aload_n 0, 1) := by decide +kernel
theorem dX3_next_51 : decode M_X3_next.2.1 51 = .ok (.getfield 10, 3) := by decide +kernel
theorem dX3_next_54 : decode M_X3_next.2.1 54 = .ok (.getfield 172, 3) := by decide +kernel
theorem dX3_next_57 : decode M_X3_next.2.1 57 = .ok (.aload_n 0, 1) := by decide +kernel
theorem dX3_next_58 : decode M_X3_next.2.1 58 = .ok (.getfield 16, 3) := by decide +kernel
theorem dX3_next_61 : decode M_X3_next.2.1 61 = .ok (.getfield 172, 3) := by decide +kernel
theorem dX3_next_64 : decode M_X3_next.2.1 64 = .ok (.iconst (-1), 1) := by decide +kernel
theorem dX3_next_65 : decode M_X3_next.2.1 65 = .ok (.ixor, 1) := by decide +kernel
theorem dX3_next_66 : decode M_X3_next.2.1 66 = .ok (.iand, 1) := by decide +kernel
theorem dX3_next_67 : decode M_X3_next.2.1 67 = .ok (.goto 10, 3) := by decide +kernel
theorem dX3_next_70 : decode M_X3_next.2.1 70 = .ok (.aload_n 0, 1) := by decide +kernel
theorem dX3_next_71 : decode M_X3_next.2.1 71 = .ok (.getfield 16, 3) := by decide +kernel
theorem dX3_next_74 : decode M_X3_next.2.1 74 = .ok (.getfield 166, 3) := by decide +kernel
theorem dX3_next_77 : decode M_X3_next.2.1 77 = .ok (.ireturn, 1) := by decide +kernel
theorem hv_X3_169 : a_okV RX3 M_X0_calledByAnybody 169 := ⟨a_in 497 (by decide +kernel) rfl, a_in 498 (by decide +kernel) rfl, a_in 499 (by decide +kernel) rfl⟩
def f_X3_next (a0 : Nat) (a1 : Int32) (w : aW) : Option (Int32 × aW) :=
  bk (f_X3_within a1 (0 : Int32) (2 : Int32) w) fun x2 w1 =>
  if ¬ x2 = (0 : Int32) then
    cV 2 w1 a0 (bk (f_X3_think a0 w1) fun _ w3 =>
    (gR 2 w3 a0 1).bind fun r4 =>
    cV 0 w3 r4 (bk (f_X0_passDay r4 (0 : Int32) w3) fun _ w5 =>
    if ¬ a1 = (0 : Int32) then
      if ¬ a1 = (1 : Int32) then
        (gR 2 w5 a0 1).bind fun r6 =>
        (gI 0 w5 r6 3).bind fun x7 =>
        some (x7, w5)
      else
        (gR 2 w5 a0 0).bind fun r8 =>
        (gI 0 w5 r8 2).bind fun x9 =>
        (gR 2 w5 a0 1).bind fun r10 =>
        (gI 0 w5 r10 2).bind fun x11 =>
        some ((x9 &&& (x11 ^^^ (-1 : Int32))), w5)
    else
      (gR 2 w5 a0 1).bind fun r12 =>
      cV 0 w5 r12 (bk (f_X0_calledByAnybody r12 w5) fun x14 w13 =>
      (gR 2 w13 a0 0).bind fun r15 =>
      cV 0 w13 r15 (bk (f_X0_calledByAnybody r15 w13) fun x17 w16 =>
      some ((x14 &&& (x17 ^^^ (-1 : Int32))), w16)))))
  else
    some ((-1 : Int32), w1)
theorem s_X3_next (a0 : Nat) (a1 : Int32) (w : aW) : Sp rvI M_X3_next [.ref a0, .int a1] w (f_X3_next a0 a1 w) := by
  refine e_entry [some (.ref a0), some (.int a1)] (by decide +kernel) (Nat.le_of_ble_eq_true rfl) (fun _ => rfl) ?_
  unfold f_X3_next
  refine e_iload_n (pc := 0) dX3_next_0 rfl rfl ?_
  refine e_iconst (pc := 1) dX3_next_1 kc_0 ?_
  refine e_iconst (pc := 2) dX3_next_2 kc_2 ?_
  refine e_callS (pc := 3) (av := [.int a1, .int (0 : Int32), .int (2 : Int32)]) (S := []) ok_X3_within ⟨Nat.le_of_ble_eq_true rfl, Nat.le_of_ble_eq_true rfl⟩ ht_X3_87 dX3_next_3 (s_X3_within a1 (0 : Int32) (2 : Int32) w) rfl rfl (Nat.le_of_ble_eq_true rfl) (fun x2 w1 => ?_)
  refine e_if_ne (pc := 6) (tgt := 11) dX3_next_6 (by decide) (fun _ => ?_) (fun _ => ?_)
  · refine e_aload_n (pc := 11) dX3_next_11 rfl rfl ?_
    refine e_callV (pc := 12) (av := []) (S := []) (c0 := 2) rfl rfl ok_X3_think ⟨Nat.le_of_ble_eq_true rfl, Nat.le_of_ble_eq_true rfl⟩ hv_X3_56 dX3_next_12 (s_X3_think a0 w1) rfl rfl (Nat.le_of_ble_eq_true rfl) (fun _ w3 => ?_)
    refine e_aload_n (pc := 15) dX3_next_15 rfl rfl ?_
    refine e_getR (pc := 16) dX3_next_16 hs_X3_16 (fun r4 => ?_)
    refine e_iconst (pc := 19) dX3_next_19 kc_0 ?_
    refine e_callV (pc := 20) (av := [.int (0 : Int32)]) (S := []) (c0 := 0) rfl rfl ok_X0_passDay ⟨Nat.le_of_ble_eq_true rfl, Nat.le_of_ble_eq_true rfl⟩ hv_X3_154 dX3_next_20 (s_X0_passDay r4 (0 : Int32) w3) rfl rfl (Nat.le_of_ble_eq_true rfl) (fun _ w5 => ?_)
    refine e_iload_n (pc := 23) dX3_next_23 rfl rfl ?_
    refine e_if_ne (pc := 24) (tgt := 45) dX3_next_24 (by decide) (fun _ => ?_) (fun _ => ?_)
    · refine e_iload_n (pc := 45) dX3_next_45 rfl rfl ?_
      refine e_iconst (pc := 46) dX3_next_46 kc_1 ?_
      refine e_icmp_ne (pc := 47) (tgt := 70) dX3_next_47 (by decide) (fun _ => ?_) (fun _ => ?_)
      · refine e_aload_n (pc := 70) dX3_next_70 rfl rfl ?_
        refine e_getR (pc := 71) dX3_next_71 hs_X3_16 (fun r6 => ?_)
        refine e_getI (pc := 74) dX3_next_74 hs_X3_166 (fun x7 => ?_)
        exact e_iret (pc := 77) dX3_next_77 rfl rfl
      · refine e_aload_n (pc := 50) dX3_next_50 rfl rfl ?_
        refine e_getR (pc := 51) dX3_next_51 hs_X3_10 (fun r8 => ?_)
        refine e_getI (pc := 54) dX3_next_54 hs_X3_172 (fun x9 => ?_)
        refine e_aload_n (pc := 57) dX3_next_57 rfl rfl ?_
        refine e_getR (pc := 58) dX3_next_58 hs_X3_16 (fun r10 => ?_)
        refine e_getI (pc := 61) dX3_next_61 hs_X3_172 (fun x11 => ?_)
        refine e_iconst (pc := 64) dX3_next_64 kc_m1 ?_
        refine e_ixor (pc := 65) dX3_next_65 ?_
        refine e_iand (pc := 66) dX3_next_66 ?_
        refine e_goto (pc := 67) (tgt := 77) dX3_next_67 (by decide) ?_
        exact e_iret (pc := 77) dX3_next_77 rfl rfl
    · refine e_aload_n (pc := 27) dX3_next_27 rfl rfl ?_
      refine e_getR (pc := 28) dX3_next_28 hs_X3_16 (fun r12 => ?_)
      refine e_callV (pc := 31) (av := []) (S := []) (c0 := 0) rfl rfl ok_X0_calledByAnybody ⟨Nat.le_of_ble_eq_true rfl, Nat.le_of_ble_eq_true rfl⟩ hv_X3_169 dX3_next_31 (s_X0_calledByAnybody r12 w5) rfl rfl (Nat.le_of_ble_eq_true rfl) (fun x14 w13 => ?_)
      refine e_aload_n (pc := 34) dX3_next_34 rfl rfl ?_
      refine e_getR (pc := 35) dX3_next_35 hs_X3_10 (fun r15 => ?_)
      refine e_callV (pc := 38) (av := []) (S := [.int x14]) (c0 := 0) rfl rfl ok_X0_calledByAnybody ⟨Nat.le_of_ble_eq_true rfl, Nat.le_of_ble_eq_true rfl⟩ hv_X3_169 dX3_next_38 (s_X0_calledByAnybody r15 w13) rfl rfl (Nat.le_of_ble_eq_true rfl) (fun x17 w16 => ?_)
      refine e_iconst (pc := 41) dX3_next_41 kc_m1 ?_
      refine e_ixor (pc := 42) dX3_next_42 ?_
      refine e_iand (pc := 43) dX3_next_43 ?_
      exact e_iret (pc := 44) dX3_next_44 rfl rfl
  · refine e_iconst (pc := 9) dX3_next_9 kc_m1 ?_
    exact e_iret (pc := 10) dX3_next_10 rfl rfl
def M_X3_meansBehind : aM := (yX3_meansBehind, cX3_meansBehind, 3, (some .int), 5, 113)
theorem ok_X3_meansBehind : a_okM M_X3_meansBehind 2 := ⟨⟨by decide +kernel, by decide +kernel⟩, by decide +kernel, a_in 508 (by decide +kernel) rfl, a_in 76 (by decide +kernel) rfl⟩
theorem dX3_meansBehind_0 : decode M_X3_meansBehind.2.1 0 = .ok (.aload_n 0, 1) := by decide +kernel
theorem dX3_meansBehind_1 : decode M_X3_meansBehind.2.1 1 = .ok (.getfield 16, 3) := by decide +kernel
theorem dX3_meansBehind_4 : decode M_X3_meansBehind.2.1 4 = .ok (.iload_n 2, 1) := by decide +kernel
theorem dX3_meansBehind_5 : decode M_X3_meansBehind.2.1 5 = .ok (.invokevirtual 138, 3) := by decide +kernel
theorem dX3_meansBehind_8 : decode M_X3_meansBehind.2.1 8 = .ok (.aload_n 0, 1) := by decide +kernel
theorem dX3_meansBehind_9 : decode M_X3_meansBehind.2.1 9 = .ok (.getfield 16, 3) := by decide +kernel
theorem dX3_meansBehind_12 : decode M_X3_meansBehind.2.1 12 = .ok (.getfield 142, 3) := by decide +kernel
theorem dX3_meansBehind_15 : decode M_X3_meansBehind.2.1 15 = .ok (.iload_n 1, 1) := by decide +kernel
theorem dX3_meansBehind_16 : decode M_X3_meansBehind.2.1 16 = .ok (.iaload, 1) := by decide +kernel
theorem dX3_meansBehind_17 : decode M_X3_meansBehind.2.1 17 = .ok (.ireturn, 1) := by decide +kernel
def f_X3_meansBehind (a0 : Nat) (a1 : Int32) (a2 : Int32) (w : aW) : Option (Int32 × aW) :=
  (gR 2 w a0 1).bind fun r1 =>
  cV 0 w r1 (bk (f_X0_passDays r1 a2 w) fun _ w2 =>
  (gR 2 w2 a0 1).bind fun r3 =>
  (gR 0 w2 r3 9).bind fun r4 =>
  (gA w2 r4 a1).bind fun x5 =>
  some (x5, w2))
theorem s_X3_meansBehind (a0 : Nat) (a1 : Int32) (a2 : Int32) (w : aW) : Sp rvI M_X3_meansBehind [.ref a0, .int a1, .int a2] w (f_X3_meansBehind a0 a1 a2 w) := by
  refine e_entry [some (.ref a0), some (.int a1), some (.int a2)] (by decide +kernel) (Nat.le_of_ble_eq_true rfl) (fun _ => rfl) ?_
  unfold f_X3_meansBehind
  refine e_aload_n (pc := 0) dX3_meansBehind_0 rfl rfl ?_
  refine e_getR (pc := 1) dX3_meansBehind_1 hs_X3_16 (fun r1 => ?_)
  refine e_iload_n (pc := 4) dX3_meansBehind_4 rfl rfl ?_
  refine e_callV (pc := 5) (av := [.int a2]) (S := []) (c0 := 0) rfl rfl ok_X0_passDays ⟨Nat.le_of_ble_eq_true rfl, Nat.le_of_ble_eq_true rfl⟩ hv_X3_138 dX3_meansBehind_5 (s_X0_passDays r1 a2 w) rfl rfl (Nat.le_of_ble_eq_true rfl) (fun _ w2 => ?_)
  refine e_aload_n (pc := 8) dX3_meansBehind_8 rfl rfl ?_
  refine e_getR (pc := 9) dX3_meansBehind_9 hs_X3_16 (fun r3 => ?_)
  refine e_getR (pc := 12) dX3_meansBehind_12 hs_X3_142 (fun r4 => ?_)
  refine e_iload_n (pc := 15) dX3_meansBehind_15 rfl rfl ?_
  refine e_iald (pc := 16) dX3_meansBehind_16 (fun x5 => ?_)
  exact e_iret (pc := 17) dX3_meansBehind_17 rfl rfl
def M_X3_name : aM := (yX3_name, cX3_name, 9, (some .int), 6, 135)
theorem ok_X3_name : a_okM M_X3_name 3 := ⟨⟨by decide +kernel, by decide +kernel⟩, by decide +kernel, a_in 504 (by decide +kernel) rfl, a_in 76 (by decide +kernel) rfl⟩
theorem dX3_name_0 : decode M_X3_name.2.1 0 = .ok (.iload_n 1, 1) := by decide +kernel
theorem dX3_name_1 : decode M_X3_name.2.1 1 = .ok (.invokestatic 94, 3) := by decide +kernel
theorem dX3_name_4 : decode M_X3_name.2.1 4 = .ok (.ifCond .eq 22, 3) := by decide +kernel
theorem dX3_name_7 : decode M_X3_name.2.1 7 = .ok (.iload_n 2, 1) := by decide +kernel
theorem dX3_name_8 : decode M_X3_name.2.1 8 = .ok (.iconst 0, 1) := by decide +kernel
theorem dX3_name_9 : decode M_X3_name.2.1 9 = .ok (.bipush 30, 2) := by decide +kernel
theorem dX3_name_11 : decode M_X3_name.2.1 11 = .ok (.invokestatic 87, 3) := by decide +kernel
theorem dX3_name_14 : decode M_X3_name.2.1 14 = .ok (.ifCond .eq 12, 3) := by decide +kernel
theorem dX3_name_17 : decode M_X3_name.2.1 17 = .ok (.iload_n 3, 1) := by decide +kernel
theorem dX3_name_18 : decode M_X3_name.2.1 18 = .ok (.iconst 0, 1) := by decide +kernel
theorem dX3_name_19 : decode M_X3_name.2.1 19 = .ok (.iconst 1, 1) := by decide +kernel
theorem dX3_name_20 : decode M_X3_name.2.1 20 = .ok (.invokestatic 87, 3) := by decide +kernel
theorem dX3_name_23 : decode M_X3_name.2.1 23 = .ok (.ifCond .ne 5, 3) := by decide +kernel
theorem dX3_name_26 : decode M_X3_name.2.1 26 = .ok (.iconst (-1), 1) := by decide +kernel
theorem dX3_name_27 : decode M_X3_name.2.1 27 = .ok (.ireturn, 1) := by decide +kernel
theorem dX3_name_28 : decode M_X3_name.2.1 28 = .ok (.aload_n 0, 1) := by decide +kernel
theorem dX3_name_29 : decode M_X3_name.2.1 29 = .ok (.invokevirtual 56, 3) := by decide +kernel
theorem dX3_name_32 : decode M_X3_name.2.1 32 = .ok (.aload_n 0, 1) := by decide +kernel
theorem dX3_name_33 : decode M_X3_name.2.1 33 = .ok (.iload_n 1, 1) := by decide +kernel
theorem dX3_name_34 : decode M_X3_name.2.1 34 = .ok (.iload_n 2, 1) := by decide +kernel
theorem dX3_name_35 : decode M_X3_name.2.1 35 = .ok (.invokevirtual 175, 3) := by decide +kernel
theorem dX3_name_38 : decode M_X3_name.2.1 38 = .ok (.istore 4, 2) := by decide +kernel
theorem dX3_name_40 : decode M_X3_name.2.1 40 = .ok (.bipush (-4), 2) := by decide +kernel
theorem dX3_name_42 : decode M_X3_name.2.1 42 = .ok (.istore 5, 2) := by decide +kernel
theorem dX3_name_44 : decode M_X3_name.2.1 44 = .ok (.aload_n 0, 1) := by decide +kernel
theorem dX3_name_45 : decode M_X3_name.2.1 45 = .ok (.getfield 10, 3) := by decide +kernel
theorem dX3_name_48 : decode M_X3_name.2.1 48 = .ok (.invokevirtual 178, 3) := by decide +kernel
theorem dX3_name_51 : decode M_X3_name.2.1 51 = .ok (.istore 6, 2) := by decide +kernel
theorem dX3_name_53 : decode M_X3_name.2.1 53 = .ok (.iconst 0, 1) := by decide +kernel
theorem dX3_name_54 : decode M_X3_name.2.1 54 = .ok (.istore 7, 2) := by decide +kernel
theorem dX3_name_56 : decode M_X3_name.2.1 56 = .ok (.iload 7, 2) := by decide +kernel
theorem dX3_name_58 : decode M_X3_name.2.1 58 = .ok (.bipush 9, 2) := by decide +kernel
theorem dX3_name_60 : decode M_X3_name.2.1 60 = .ok (.if_icmp .ge 57, 3) := by decide +kernel
theorem dX3_name_63 : decode M_X3_name.2.1 63 = .ok (.iload 6, 2) := by decide +kernel
theorem dX3_name_65 : decode M_X3_name.2.1 65 = .ok (.iload 7, 2) := by decide +kernel
theorem dX3_name_67 : decode M_X3_name.2.1 67 = .ok (.invokestatic 181, 3) := by decide +kernel
theorem dX3_name_70 : decode M_X3_name.2.1 70 = .ok (.ifCond .eq 41, 3) := by decide +kernel
theorem dX3_name_73 : decode M_X3_name.2.1 73 = .ok (.aload_n 0, 1) := by decide +kernel
theorem dX3_name_74 : decode M_X3_name.2.1 74 = .ok (.invokevirtual 56, 3) := by decide +kernel
theorem dX3_name_77 : decode M_X3_name.2.1 77 = .ok (.aload_n 0, 1) := by decide +kernel
theorem dX3_name_78 : decode M_X3_name.2.1 78 = .ok (.getfield 16, 3) := by decide +kernel
theorem dX3_name_81 : decode M_X3_name.2.1 81 = .ok (.getfield 151, 3) := by decide +kernel
theorem dX3_name_84 : decode M_X3_name.2.1 84 = .ok (.iload 7, 2) := by decide +kernel
theorem dX3_name_86 : decode M_X3_name.2.1 86 = .ok (.iload_n 1, 1) := by decide +kernel
theorem dX3_name_87 : decode M_X3_name.2.1 87 = .ok (.iastore, 1) := by decide +kernel
theorem dX3_name_88 : decode M_X3_name.2.1 88 = .ok (.aload_n 0, 1) := by decide +kernel
theorem dX3_name_89 : decode M_X3_name.2.1 89 = .ok (.iload_n 1, 1) := by decide +kernel
theorem dX3_name_90 : decode M_X3_name.2.1 90 = .ok (.iload_n 2, 1) := by decide +kernel
theorem dX3_name_91 : decode M_X3_name.2.1 91 = .ok (.invokevirtual 175, 3) := by decide +kernel
theorem dX3_name_94 : decode M_X3_name.2.1 94 = .ok (.istore 8, 2) := by decide +kernel
theorem dX3_name_96 : decode M_X3_name.2.1 96 = .ok (.iload 8, 2) := by decide +kernel
theorem dX3_name_98 : decode M_X3_name.2.1 98 = .ok (.iload 4, 2) := by decide +kernel
theorem dX3_name_100 : decode M_X3_name.2.1 100 = .ok (.if_icmp .le 11, 3) := by decide +kernel
theorem dX3_name_103 : decode M_X3_name.2.1 103 = .ok (.iload 8, 2) := by decide +kernel
theorem dX3_name_105 : decode M_X3_name.2.1 105 = .ok (.istore 4, 2) := by decide +kernel
theorem dX3_name_107 : decode M_X3_name.2.1 107 = .ok (.iload 7, 2) := by decide +kernel
theorem dX3_name_109 : decode M_X3_name.2.1 109 = .ok (.istore 5, 2) := by decide +kernel
theorem dX3_name_111 : decode M_X3_name.2.1 111 = .ok (.iinc 7 1, 3) := by decide +kernel
theorem dX3_name_114 : decode M_X3_name.2.1 114 = .ok (.goto (-58), 3) := by decide +kernel
theorem dX3_name_117 : decode M_X3_name.2.1 117 = .ok (.iload 5, 2) := by decide +kernel
theorem dX3_name_119 : decode M_X3_name.2.1 119 = .ok (.bipush (-4), 2) := by decide +kernel
theorem dX3_name_121 : decode M_X3_name.2.1 121 = .ok (.if_icmp .eq 7, 3) := by decide +kernel
theorem dX3_name_124 : decode M_X3_name.2.1 124 = .ok (.iload_n 3, 1) := by decide +kernel
theorem dX3_name_125 : decode M_X3_name.2.1 125 = .ok (.ifCond .ne 8, 3) := by decide +kernel
theorem dX3_name_128 : decode M_X3_name.2.1 128 = .ok (.iload 5, 2) := by decide +kernel
theorem dX3_name_130 : decode M_X3_name.2.1 130 = .ok (.goto 5, 3) := by decide +kernel
theorem dX3_name_133 : decode M_X3_name.2.1 133 = .ok (.iload 4, 2) := by decide +kernel
theorem dX3_name_135 : decode M_X3_name.2.1 135 = .ok (.ireturn, 1) := by decide +kernel
theorem hv_X3_175 : a_okV RX3 M_X3_meansBehind 175 := ⟨a_in 505 (by decide +kernel) rfl, a_in 507 (by decide +kernel) rfl, a_in 11 (by decide +kernel) rfl⟩
theorem hv_X3_178 : a_okV RX3 M_X0_freeOnes 178 := ⟨a_in 509 (by decide +kernel) rfl, a_in 510 (by decide +kernel) rfl, a_in 511 (by decide +kernel) rfl⟩
def c_X3_name_56 (a0 : Nat) (a1 : Int32) (a2 : Int32) (a3 : Int32) (k56 : Int32 → Int32 → Int32 → Int32 → aW → Option (Int32 × aW)) (b4 : Int32) (b5 : Int32) (b6 : Int32) (b7 : Int32) (w : aW) : Option (Int32 × aW) :=
  if (9 : Int32) ≤ b7 then
    if b5 = (-4 : Int32) then
      some (b5, w)
    else
      if ¬ a3 = (0 : Int32) then
        some (b4, w)
      else
        some (b5, w)
  else
    bk (f_X3_has b6 b7 w) fun x14 w13 =>
    if x14 = (0 : Int32) then
      k56 b4 b5 b6 (b7 + 1) w13
    else
      cV 2 w13 a0 (bk (f_X3_think a0 w13) fun _ w15 =>
      (gR 2 w15 a0 1).bind fun r16 =>
      (gR 0 w15 r16 8).bind fun r17 =>
      (sA w15 r17 b7 a1).bind fun w18 =>
      cV 2 w18 a0 (bk (f_X3_meansBehind a0 a1 a2 w18) fun x20 w19 =>
      if x20 ≤ b4 then
        k56 b4 b5 b6 (b7 + 1) w19
      else
        k56 x20 b7 b6 (b7 + 1) w19))
theorem t_X3_name_56 (a0 : Nat) (a1 : Int32) (a2 : Int32) (a3 : Int32) (k56 : Int32 → Int32 → Int32 → Int32 → aW → Option (Int32 × aW)) (hk56 : ∀ (b4 : Int32) (b5 : Int32) (b6 : Int32) (b7 : Int32) (w : aW), Ev rvI M_X3_name 56 [some (.ref a0), some (.int a1), some (.int a2), some (.int a3), some (.int b4), some (.int b5), some (.int b6), some (.int b7), none] [] w (k56 b4 b5 b6 b7 w)) (b4 : Int32) (b5 : Int32) (b6 : Int32) (b7 : Int32) (w : aW) : Ev rvI M_X3_name 56 [some (.ref a0), some (.int a1), some (.int a2), some (.int a3), some (.int b4), some (.int b5), some (.int b6), some (.int b7), none] [] w (c_X3_name_56 a0 a1 a2 a3 k56 b4 b5 b6 b7 w) := by
  unfold c_X3_name_56
  refine e_iload (pc := 56) dX3_name_56 rfl ?_
  refine e_bipush (pc := 58) dX3_name_58 kb_9 ?_
  refine e_icmp_ge (pc := 60) (tgt := 117) dX3_name_60 (by decide) (fun _ => ?_) (fun _ => ?_)
  · refine e_iload (pc := 117) dX3_name_117 rfl ?_
    refine e_bipush (pc := 119) dX3_name_119 kb_m4 ?_
    refine e_icmp_eq (pc := 121) (tgt := 128) dX3_name_121 (by decide) (fun _ => ?_) (fun _ => ?_)
    · refine e_iload (pc := 128) dX3_name_128 rfl ?_
      refine e_goto (pc := 130) (tgt := 135) dX3_name_130 (by decide) ?_
      exact e_iret (pc := 135) dX3_name_135 rfl rfl
    · refine e_iload_n (pc := 124) dX3_name_124 rfl rfl ?_
      refine e_if_ne (pc := 125) (tgt := 133) dX3_name_125 (by decide) (fun _ => ?_) (fun _ => ?_)
      · refine e_iload (pc := 133) dX3_name_133 rfl ?_
        exact e_iret (pc := 135) dX3_name_135 rfl rfl
      · refine e_iload (pc := 128) dX3_name_128 rfl ?_
        refine e_goto (pc := 130) (tgt := 135) dX3_name_130 (by decide) ?_
        exact e_iret (pc := 135) dX3_name_135 rfl rfl
  · refine e_iload (pc := 63) dX3_name_63 rfl ?_
    refine e_iload (pc := 65) dX3_name_65 rfl ?_
    refine e_callS (pc := 67) (av := [.int b6, .int b7]) (S := []) ok_X3_has ⟨Nat.le_of_ble_eq_true rfl, Nat.le_of_ble_eq_true rfl⟩ ht_X3_181 dX3_name_67 (s_X3_has b6 b7 w) rfl rfl (Nat.le_of_ble_eq_true rfl) (fun x14 w13 => ?_)
    refine e_if_eq (pc := 70) (tgt := 111) dX3_name_70 (by decide) (fun _ => ?_) (fun _ => ?_)
    · refine e_iinc (L' := [some (.ref a0), some (.int a1), some (.int a2), some (.int a3), some (.int b4), some (.int b5), some (.int b6), some (.int (b7 + 1)), none]) (pc := 111) (v := 1) dX3_name_111 (by decide) rfl kc_1 rfl ?_
      refine e_goto (pc := 114) (tgt := 56) dX3_name_114 (by decide) ?_
      exact hk56 b4 b5 b6 (b7 + 1) w13
    · refine e_aload_n (pc := 73) dX3_name_73 rfl rfl ?_
      refine e_callV (pc := 74) (av := []) (S := []) (c0 := 2) rfl rfl ok_X3_think ⟨Nat.le_of_ble_eq_true rfl, Nat.le_of_ble_eq_true rfl⟩ hv_X3_56 dX3_name_74 (s_X3_think a0 w13) rfl rfl (Nat.le_of_ble_eq_true rfl) (fun _ w15 => ?_)
      refine e_aload_n (pc := 77) dX3_name_77 rfl rfl ?_
      refine e_getR (pc := 78) dX3_name_78 hs_X3_16 (fun r16 => ?_)
      refine e_getR (pc := 81) dX3_name_81 hs_X3_151 (fun r17 => ?_)
      refine e_iload (pc := 84) dX3_name_84 rfl ?_
      refine e_iload_n (pc := 86) dX3_name_86 rfl rfl ?_
      refine e_iast (pc := 87) dX3_name_87 (fun w18 => ?_)
      refine e_aload_n (pc := 88) dX3_name_88 rfl rfl ?_
      refine e_iload_n (pc := 89) dX3_name_89 rfl rfl ?_
      refine e_iload_n (pc := 90) dX3_name_90 rfl rfl ?_
      refine e_callV (pc := 91) (av := [.int a1, .int a2]) (S := []) (c0 := 2) rfl rfl ok_X3_meansBehind ⟨Nat.le_of_ble_eq_true rfl, Nat.le_of_ble_eq_true rfl⟩ hv_X3_175 dX3_name_91 (s_X3_meansBehind a0 a1 a2 w18) rfl rfl (Nat.le_of_ble_eq_true rfl) (fun x20 w19 => ?_)
      refine e_istore (L' := [some (.ref a0), some (.int a1), some (.int a2), some (.int a3), some (.int b4), some (.int b5), some (.int b6), some (.int b7), some (.int x20)]) (pc := 94) dX3_name_94 (by decide) rfl ?_
      refine e_iload (pc := 96) dX3_name_96 rfl ?_
      refine e_iload (pc := 98) dX3_name_98 rfl ?_
      refine e_icmp_le (pc := 100) (tgt := 111) dX3_name_100 (by decide) (fun _ => ?_) (fun _ => ?_)
      · refine e_iinc (L' := [some (.ref a0), some (.int a1), some (.int a2), some (.int a3), some (.int b4), some (.int b5), some (.int b6), some (.int (b7 + 1)), some (.int x20)]) (pc := 111) (v := 1) dX3_name_111 (by decide) rfl kc_1 rfl ?_
        refine e_goto (pc := 114) (tgt := 56) dX3_name_114 (by decide) ?_
        refine e_forget (L2 := [some (.ref a0), some (.int a1), some (.int a2), some (.int a3), some (.int b4), some (.int b5), some (.int b6), some (.int (b7 + 1)), none]) (And.intro rfl (And.intro rfl (And.intro rfl (And.intro rfl (And.intro rfl (And.intro rfl (And.intro rfl (And.intro rfl trivial)))))))) ?_
        exact hk56 b4 b5 b6 (b7 + 1) w19
      · refine e_iload (pc := 103) dX3_name_103 rfl ?_
        refine e_istore (L' := [some (.ref a0), some (.int a1), some (.int a2), some (.int a3), some (.int x20), some (.int b5), some (.int b6), some (.int b7), some (.int x20)]) (pc := 105) dX3_name_105 (by decide) rfl ?_
        refine e_iload (pc := 107) dX3_name_107 rfl ?_
        refine e_istore (L' := [some (.ref a0), some (.int a1), some (.int a2), some (.int a3), some (.int x20), some (.int b7), some (.int b6), some (.int b7), some (.int x20)]) (pc := 109) dX3_name_109 (by decide) rfl ?_
        refine e_iinc (L' := [some (.ref a0), some (.int a1), some (.int a2), some (.int a3), some (.int x20), some (.int b7), some (.int b6), some (.int (b7 + 1)), some (.int x20)]) (pc := 111) (v := 1) dX3_name_111 (by decide) rfl kc_1 rfl ?_
        refine e_goto (pc := 114) (tgt := 56) dX3_name_114 (by decide) ?_
        refine e_forget (L2 := [some (.ref a0), some (.int a1), some (.int a2), some (.int a3), some (.int x20), some (.int b7), some (.int b6), some (.int (b7 + 1)), none]) (And.intro rfl (And.intro rfl (And.intro rfl (And.intro rfl (And.intro rfl (And.intro rfl (And.intro rfl (And.intro rfl trivial)))))))) ?_
        exact hk56 x20 b7 b6 (b7 + 1) w19
def f_X3_name (a0 : Nat) (a1 : Int32) (a2 : Int32) (a3 : Int32) (w : aW) : Option (Int32 × aW) :=
  bk (f_X3_isPerson a1 w) fun x2 w1 =>
  if x2 = (0 : Int32) then
    some ((-1 : Int32), w1)
  else
    bk (f_X3_within a2 (0 : Int32) (30 : Int32) w1) fun x4 w3 =>
    if x4 = (0 : Int32) then
      some ((-1 : Int32), w3)
    else
      bk (f_X3_within a3 (0 : Int32) (1 : Int32) w3) fun x6 w5 =>
      if ¬ x6 = (0 : Int32) then
        cV 2 w5 a0 (bk (f_X3_think a0 w5) fun _ w7 =>
        cV 2 w7 a0 (bk (f_X3_meansBehind a0 a1 a2 w7) fun x9 w8 =>
        (gR 2 w8 a0 0).bind fun r10 =>
        cV 0 w8 r10 (bk (f_X0_freeOnes r10 w8) fun x12 w11 =>
        loop5 (c_X3_name_56 a0 a1 a2 a3) a_fuel x9 (-4 : Int32) x12 (0 : Int32) w11)))
      else
        some ((-1 : Int32), w5)
theorem s_X3_name (a0 : Nat) (a1 : Int32) (a2 : Int32) (a3 : Int32) (w : aW) : Sp rvI M_X3_name [.ref a0, .int a1, .int a2, .int a3] w (f_X3_name a0 a1 a2 a3 w) := by
  refine e_entry [some (.ref a0), some (.int a1), some (.int a2), some (.int a3), none, none, none, none, none] (by decide +kernel) (Nat.le_of_ble_eq_true rfl) (fun _ => rfl) ?_
  unfold f_X3_name
  refine e_iload_n (pc := 0) dX3_name_0 rfl rfl ?_
  refine e_callS (pc := 1) (av := [.int a1]) (S := []) ok_X3_isPerson ⟨Nat.le_of_ble_eq_true rfl, Nat.le_of_ble_eq_true rfl⟩ ht_X3_94 dX3_name_1 (s_X3_isPerson a1 w) rfl rfl (Nat.le_of_ble_eq_true rfl) (fun x2 w1 => ?_)
  refine e_if_eq (pc := 4) (tgt := 26) dX3_name_4 (by decide) (fun _ => ?_) (fun _ => ?_)
  · refine e_iconst (pc := 26) dX3_name_26 kc_m1 ?_
    exact e_iret (pc := 27) dX3_name_27 rfl rfl
  · refine e_iload_n (pc := 7) dX3_name_7 rfl rfl ?_
    refine e_iconst (pc := 8) dX3_name_8 kc_0 ?_
    refine e_bipush (pc := 9) dX3_name_9 kb_30 ?_
    refine e_callS (pc := 11) (av := [.int a2, .int (0 : Int32), .int (30 : Int32)]) (S := []) ok_X3_within ⟨Nat.le_of_ble_eq_true rfl, Nat.le_of_ble_eq_true rfl⟩ ht_X3_87 dX3_name_11 (s_X3_within a2 (0 : Int32) (30 : Int32) w1) rfl rfl (Nat.le_of_ble_eq_true rfl) (fun x4 w3 => ?_)
    refine e_if_eq (pc := 14) (tgt := 26) dX3_name_14 (by decide) (fun _ => ?_) (fun _ => ?_)
    · refine e_iconst (pc := 26) dX3_name_26 kc_m1 ?_
      exact e_iret (pc := 27) dX3_name_27 rfl rfl
    · refine e_iload_n (pc := 17) dX3_name_17 rfl rfl ?_
      refine e_iconst (pc := 18) dX3_name_18 kc_0 ?_
      refine e_iconst (pc := 19) dX3_name_19 kc_1 ?_
      refine e_callS (pc := 20) (av := [.int a3, .int (0 : Int32), .int (1 : Int32)]) (S := []) ok_X3_within ⟨Nat.le_of_ble_eq_true rfl, Nat.le_of_ble_eq_true rfl⟩ ht_X3_87 dX3_name_20 (s_X3_within a3 (0 : Int32) (1 : Int32) w3) rfl rfl (Nat.le_of_ble_eq_true rfl) (fun x6 w5 => ?_)
      refine e_if_ne (pc := 23) (tgt := 28) dX3_name_23 (by decide) (fun _ => ?_) (fun _ => ?_)
      · refine e_aload_n (pc := 28) dX3_name_28 rfl rfl ?_
        refine e_callV (pc := 29) (av := []) (S := []) (c0 := 2) rfl rfl ok_X3_think ⟨Nat.le_of_ble_eq_true rfl, Nat.le_of_ble_eq_true rfl⟩ hv_X3_56 dX3_name_29 (s_X3_think a0 w5) rfl rfl (Nat.le_of_ble_eq_true rfl) (fun _ w7 => ?_)
        refine e_aload_n (pc := 32) dX3_name_32 rfl rfl ?_
        refine e_iload_n (pc := 33) dX3_name_33 rfl rfl ?_
        refine e_iload_n (pc := 34) dX3_name_34 rfl rfl ?_
        refine e_callV (pc := 35) (av := [.int a1, .int a2]) (S := []) (c0 := 2) rfl rfl ok_X3_meansBehind ⟨Nat.le_of_ble_eq_true rfl, Nat.le_of_ble_eq_true rfl⟩ hv_X3_175 dX3_name_35 (s_X3_meansBehind a0 a1 a2 w7) rfl rfl (Nat.le_of_ble_eq_true rfl) (fun x9 w8 => ?_)
        refine e_istore (L' := [some (.ref a0), some (.int a1), some (.int a2), some (.int a3), some (.int x9), none, none, none, none]) (pc := 38) dX3_name_38 (by decide) rfl ?_
        refine e_bipush (pc := 40) dX3_name_40 kb_m4 ?_
        refine e_istore (L' := [some (.ref a0), some (.int a1), some (.int a2), some (.int a3), some (.int x9), some (.int (-4 : Int32)), none, none, none]) (pc := 42) dX3_name_42 (by decide) rfl ?_
        refine e_aload_n (pc := 44) dX3_name_44 rfl rfl ?_
        refine e_getR (pc := 45) dX3_name_45 hs_X3_10 (fun r10 => ?_)
        refine e_callV (pc := 48) (av := []) (S := []) (c0 := 0) rfl rfl ok_X0_freeOnes ⟨Nat.le_of_ble_eq_true rfl, Nat.le_of_ble_eq_true rfl⟩ hv_X3_178 dX3_name_48 (s_X0_freeOnes r10 w8) rfl rfl (Nat.le_of_ble_eq_true rfl) (fun x12 w11 => ?_)
        refine e_istore (L' := [some (.ref a0), some (.int a1), some (.int a2), some (.int a3), some (.int x9), some (.int (-4 : Int32)), some (.int x12), none, none]) (pc := 51) dX3_name_51 (by decide) rfl ?_
        refine e_iconst (pc := 53) dX3_name_53 kc_0 ?_
        refine e_istore (L' := [some (.ref a0), some (.int a1), some (.int a2), some (.int a3), some (.int x9), some (.int (-4 : Int32)), some (.int x12), some (.int (0 : Int32)), none]) (pc := 54) dX3_name_54 (by decide) rfl ?_
        exact e_loop5 (L := fun b4 b5 b6 b7 => [some (.ref a0), some (.int a1), some (.int a2), some (.int a3), some (.int b4), some (.int b5), some (.int b6), some (.int b7), none]) (S := fun b4 b5 b6 b7 => []) (fun kf hkf => t_X3_name_56 a0 a1 a2 a3  kf hkf) _ x9 (-4 : Int32) x12 (0 : Int32) w11
      · refine e_iconst (pc := 26) dX3_name_26 kc_m1 ?_
        exact e_iret (pc := 27) dX3_name_27 rfl rfl
def M_X3_covers : aM := (yX3_covers, cX3_covers, 5, (some .boolean), 5, 114)
theorem ok_X3_covers : a_okM M_X3_covers 3 := ⟨⟨by decide +kernel, by decide +kernel⟩, by decide +kernel, a_in 522 (by decide +kernel) rfl, a_in 76 (by decide +kernel) rfl⟩
theorem dX3_covers_0 : decode M_X3_covers.2.1 0 = .ok (.aload_n 0, 1) := by decide +kernel
theorem dX3_covers_1 : decode M_X3_covers.2.1 1 = .ok (.getfield 10, 3) := by decide +kernel
theorem dX3_covers_4 : decode M_X3_covers.2.1 4 = .ok (.iload_n 1, 1) := by decide +kernel
theorem dX3_covers_5 : decode M_X3_covers.2.1 5 = .ok (.invokevirtual 148, 3) := by decide +kernel
theorem dX3_covers_8 : decode M_X3_covers.2.1 8 = .ok (.iload_n 3, 1) := by decide +kernel
theorem dX3_covers_9 : decode M_X3_covers.2.1 9 = .ok (.ior, 1) := by decide +kernel
theorem dX3_covers_10 : decode M_X3_covers.2.1 10 = .ok (.istore 4, 2) := by decide +kernel
theorem dX3_covers_12 : decode M_X3_covers.2.1 12 = .ok (.aload_n 0, 1) := by decide +kernel
theorem dX3_covers_13 : decode M_X3_covers.2.1 13 = .ok (.getfield 10, 3) := by decide +kernel
theorem dX3_covers_16 : decode M_X3_covers.2.1 16 = .ok (.iload 4, 2) := by decide +kernel
theorem dX3_covers_18 : decode M_X3_covers.2.1 18 = .ok (.invokevirtual 336, 3) := by decide +kernel
theorem dX3_covers_21 : decode M_X3_covers.2.1 21 = .ok (.iload_n 2, 1) := by decide +kernel
theorem dX3_covers_22 : decode M_X3_covers.2.1 22 = .ok (.if_icmp .ge 5, 3) := by decide +kernel
theorem dX3_covers_25 : decode M_X3_covers.2.1 25 = .ok (.iconst 0, 1) := by decide +kernel
theorem dX3_covers_26 : decode M_X3_covers.2.1 26 = .ok (.ireturn, 1) := by decide +kernel
theorem dX3_covers_27 : decode M_X3_covers.2.1 27 = .ok (.aload_n 0, 1) := by decide +kernel
theorem dX3_covers_28 : decode M_X3_covers.2.1 28 = .ok (.invokevirtual 56, 3) := by decide +kernel
theorem dX3_covers_31 : decode M_X3_covers.2.1 31 = .ok (.aload_n 0, 1) := by decide +kernel
theorem dX3_covers_32 : decode M_X3_covers.2.1 32 = .ok (.getfield 16, 3) := by decide +kernel
theorem dX3_covers_35 : decode M_X3_covers.2.1 35 = .ok (.iload_n 3, 1) := by decide +kernel
theorem dX3_covers_36 : decode M_X3_covers.2.1 36 = .ok (.iload_n 1, 1) := by decide +kernel
theorem dX3_covers_37 : decode M_X3_covers.2.1 37 = .ok (.invokevirtual 339, 3) := by decide +kernel
theorem dX3_covers_40 : decode M_X3_covers.2.1 40 = .ok (.aload_n 0, 1) := by decide +kernel
theorem dX3_covers_41 : decode M_X3_covers.2.1 41 = .ok (.getfield 16, 3) := by decide +kernel
theorem dX3_covers_44 : decode M_X3_covers.2.1 44 = .ok (.iload 4, 2) := by decide +kernel
theorem dX3_covers_46 : decode M_X3_covers.2.1 46 = .ok (.bipush 12, 2) := by decide +kernel
theorem dX3_covers_48 : decode M_X3_covers.2.1 48 = .ok (.invokevirtual 199, 3) := by decide +kernel
theorem dX3_covers_51 : decode M_X3_covers.2.1 51 = .ok (.ireturn, 1) := by decide +kernel
theorem hv_X3_336 : a_okV RX3 M_X0_workTogether 336 := ⟨a_in 523 (by decide +kernel) rfl, a_in 416 (by decide +kernel) rfl, a_in 417 (by decide +kernel) rfl⟩
theorem hv_X3_339 : a_okV RX3 M_X0_giveAll 339 := ⟨a_in 524 (by decide +kernel) rfl, a_in 356 (by decide +kernel) rfl, a_in 357 (by decide +kernel) rfl⟩
theorem hv_X3_199 : a_okV RX3 M_X0_keepsAlive 199 := ⟨a_in 525 (by decide +kernel) rfl, a_in 526 (by decide +kernel) rfl, a_in 527 (by decide +kernel) rfl⟩
def f_X3_covers (a0 : Nat) (a1 : Int32) (a2 : Int32) (a3 : Int32) (w : aW) : Option (Int32 × aW) :=
  (gR 2 w a0 0).bind fun r1 =>
  cV 0 w r1 (bk (f_X0_calledBy r1 a1 w) fun x3 w2 =>
  (gR 2 w2 a0 0).bind fun r4 =>
  cV 0 w2 r4 (bk (f_X0_workTogether r4 (x3 ||| a3) w2) fun x6 w5 =>
  if a2 ≤ x6 then
    cV 2 w5 a0 (bk (f_X3_think a0 w5) fun _ w7 =>
    (gR 2 w7 a0 1).bind fun r8 =>
    cV 0 w7 r8 (bk (f_X0_giveAll r8 a3 a1 w7) fun _ w9 =>
    (gR 2 w9 a0 1).bind fun r10 =>
    cV 0 w9 r10 (bk (f_X0_keepsAlive r10 (x3 ||| a3) (12 : Int32) w9) fun x12 w11 =>
    if ¬ (x12 = 0 ∨ x12 = 1) then none else some (x12, w11))))
  else
    some ((0 : Int32), w5)))
theorem s_X3_covers (a0 : Nat) (a1 : Int32) (a2 : Int32) (a3 : Int32) (w : aW) : Sp rvI M_X3_covers [.ref a0, .int a1, .int a2, .int a3] w (f_X3_covers a0 a1 a2 a3 w) := by
  refine e_entry [some (.ref a0), some (.int a1), some (.int a2), some (.int a3), none] (by decide +kernel) (Nat.le_of_ble_eq_true rfl) (fun _ => rfl) ?_
  unfold f_X3_covers
  refine e_aload_n (pc := 0) dX3_covers_0 rfl rfl ?_
  refine e_getR (pc := 1) dX3_covers_1 hs_X3_10 (fun r1 => ?_)
  refine e_iload_n (pc := 4) dX3_covers_4 rfl rfl ?_
  refine e_callV (pc := 5) (av := [.int a1]) (S := []) (c0 := 0) rfl rfl ok_X0_calledBy ⟨Nat.le_of_ble_eq_true rfl, Nat.le_of_ble_eq_true rfl⟩ hv_X3_148 dX3_covers_5 (s_X0_calledBy r1 a1 w) rfl rfl (Nat.le_of_ble_eq_true rfl) (fun x3 w2 => ?_)
  refine e_iload_n (pc := 8) dX3_covers_8 rfl rfl ?_
  refine e_ior (pc := 9) dX3_covers_9 ?_
  refine e_istore (L' := [some (.ref a0), some (.int a1), some (.int a2), some (.int a3), some (.int (x3 ||| a3))]) (pc := 10) dX3_covers_10 (by decide) rfl ?_
  refine e_aload_n (pc := 12) dX3_covers_12 rfl rfl ?_
  refine e_getR (pc := 13) dX3_covers_13 hs_X3_10 (fun r4 => ?_)
  refine e_iload (pc := 16) dX3_covers_16 rfl ?_
  refine e_callV (pc := 18) (av := [.int (x3 ||| a3)]) (S := []) (c0 := 0) rfl rfl ok_X0_workTogether ⟨Nat.le_of_ble_eq_true rfl, Nat.le_of_ble_eq_true rfl⟩ hv_X3_336 dX3_covers_18 (s_X0_workTogether r4 (x3 ||| a3) w2) rfl rfl (Nat.le_of_ble_eq_true rfl) (fun x6 w5 => ?_)
  refine e_iload_n (pc := 21) dX3_covers_21 rfl rfl ?_
  refine e_icmp_ge (pc := 22) (tgt := 27) dX3_covers_22 (by decide) (fun _ => ?_) (fun _ => ?_)
  · refine e_aload_n (pc := 27) dX3_covers_27 rfl rfl ?_
    refine e_callV (pc := 28) (av := []) (S := []) (c0 := 2) rfl rfl ok_X3_think ⟨Nat.le_of_ble_eq_true rfl, Nat.le_of_ble_eq_true rfl⟩ hv_X3_56 dX3_covers_28 (s_X3_think a0 w5) rfl rfl (Nat.le_of_ble_eq_true rfl) (fun _ w7 => ?_)
    refine e_aload_n (pc := 31) dX3_covers_31 rfl rfl ?_
    refine e_getR (pc := 32) dX3_covers_32 hs_X3_16 (fun r8 => ?_)
    refine e_iload_n (pc := 35) dX3_covers_35 rfl rfl ?_
    refine e_iload_n (pc := 36) dX3_covers_36 rfl rfl ?_
    refine e_callV (pc := 37) (av := [.int a3, .int a1]) (S := []) (c0 := 0) rfl rfl ok_X0_giveAll ⟨Nat.le_of_ble_eq_true rfl, Nat.le_of_ble_eq_true rfl⟩ hv_X3_339 dX3_covers_37 (s_X0_giveAll r8 a3 a1 w7) rfl rfl (Nat.le_of_ble_eq_true rfl) (fun _ w9 => ?_)
    refine e_aload_n (pc := 40) dX3_covers_40 rfl rfl ?_
    refine e_getR (pc := 41) dX3_covers_41 hs_X3_16 (fun r10 => ?_)
    refine e_iload (pc := 44) dX3_covers_44 rfl ?_
    refine e_bipush (pc := 46) dX3_covers_46 kb_12 ?_
    refine e_callV (pc := 48) (av := [.int (x3 ||| a3), .int (12 : Int32)]) (S := []) (c0 := 0) rfl rfl ok_X0_keepsAlive ⟨Nat.le_of_ble_eq_true rfl, Nat.le_of_ble_eq_true rfl⟩ hv_X3_199 dX3_covers_48 (s_X0_keepsAlive r10 (x3 ||| a3) (12 : Int32) w9) rfl rfl (Nat.le_of_ble_eq_true rfl) (fun x12 w11 => ?_)
    refine e_chk (fun h13 => ?_)
    exact e_iret (pc := 51) dX3_covers_51 rfl (a_nb (Decidable.not_not.mp h13))
  · refine e_iconst (pc := 25) dX3_covers_25 kc_0 ?_
    exact e_iret (pc := 26) dX3_covers_26 rfl (a_nb (by decide))
def M_X3_cover : aM := (yX3_cover, cX3_cover, 7, (some .int), 6, 138)
theorem ok_X3_cover : a_okM M_X3_cover 2 := ⟨⟨by decide +kernel, by decide +kernel⟩, by decide +kernel, a_in 517 (by decide +kernel) rfl, a_in 76 (by decide +kernel) rfl⟩
theorem dX3_cover_0 : decode M_X3_cover.2.1 0 = .ok (.iload_n 1, 1) := by decide +kernel
theorem dX3_cover_1 : decode M_X3_cover.2.1 1 = .ok (.invokestatic 94, 3) := by decide +kernel
theorem dX3_cover_4 : decode M_X3_cover.2.1 4 = .ok (.ifCond .eq 13, 3) := by decide +kernel
theorem dX3_cover_7 : decode M_X3_cover.2.1 7 = .ok (.iload_n 2, 1) := by decide +kernel
theorem dX3_cover_8 : decode M_X3_cover.2.1 8 = .ok (.iconst 0, 1) := by decide +kernel
theorem dX3_cover_9 : decode M_X3_cover.2.1 9 = .ok (.bipush 99, 2) := by decide +kernel
theorem dX3_cover_11 : decode M_X3_cover.2.1 11 = .ok (.invokestatic 87, 3) := by decide +kernel
theorem dX3_cover_14 : decode M_X3_cover.2.1 14 = .ok (.ifCond .ne 5, 3) := by decide +kernel
theorem dX3_cover_17 : decode M_X3_cover.2.1 17 = .ok (.iconst (-1), 1) := by decide +kernel
theorem dX3_cover_18 : decode M_X3_cover.2.1 18 = .ok (.ireturn, 1) := by decide +kernel
theorem dX3_cover_19 : decode M_X3_cover.2.1 19 = .ok (.aload_n 0, 1) := by decide +kernel
theorem dX3_cover_20 : decode M_X3_cover.2.1 20 = .ok (.getfield 10, 3) := by decide +kernel
theorem dX3_cover_23 : decode M_X3_cover.2.1 23 = .ok (.invokevirtual 178, 3) := by decide +kernel
theorem dX3_cover_26 : decode M_X3_cover.2.1 26 = .ok (.istore_n 3, 1) := by decide +kernel
theorem dX3_cover_27 : decode M_X3_cover.2.1 27 = .ok (.bipush (-4), 2) := by decide +kernel
theorem dX3_cover_29 : decode M_X3_cover.2.1 29 = .ok (.istore 4, 2) := by decide +kernel
theorem dX3_cover_31 : decode M_X3_cover.2.1 31 = .ok (.bipush 10, 2) := by decide +kernel
theorem dX3_cover_33 : decode M_X3_cover.2.1 33 = .ok (.istore 5, 2) := by decide +kernel
theorem dX3_cover_35 : decode M_X3_cover.2.1 35 = .ok (.iconst 0, 1) := by decide +kernel
theorem dX3_cover_36 : decode M_X3_cover.2.1 36 = .ok (.istore 6, 2) := by decide +kernel
theorem dX3_cover_38 : decode M_X3_cover.2.1 38 = .ok (.iload 6, 2) := by decide +kernel
theorem dX3_cover_40 : decode M_X3_cover.2.1 40 = .ok (.iload_n 3, 1) := by decide +kernel
theorem dX3_cover_41 : decode M_X3_cover.2.1 41 = .ok (.if_icmp .gt 50, 3) := by decide +kernel
theorem dX3_cover_44 : decode M_X3_cover.2.1 44 = .ok (.iload 6, 2) := by decide +kernel
theorem dX3_cover_46 : decode M_X3_cover.2.1 46 = .ok (.iload_n 3, 1) := by decide +kernel
theorem dX3_cover_47 : decode M_X3_cover.2.1 47 = .ok (.iconst (-1), 1) := by decide +kernel
theorem dX3_cover_48 : decode M_X3_cover.2.1 48 = .ok (.ixor, 1) := by decide +kernel
theorem dX3_cover_49 : decode M_X3_cover.2.1 49 = .ok (.iand, 1) := by decide +kernel
theorem dX3_cover_50 : decode M_X3_cover.2.1 50 = .ok (.ifCond .ne 35, 3) := by decide +kernel
theorem dX3_cover_53 : decode M_X3_cover.2.1 53 = .ok (.iload 6, 2) := by decide +kernel
theorem dX3_cover_55 : decode M_X3_cover.2.1 55 = .ok (.invokestatic 185, 3) := by decide +kernel
theorem dX3_cover_58 : decode M_X3_cover.2.1 58 = .ok (.iload 5, 2) := by decide +kernel
theorem dX3_cover_60 : decode M_X3_cover.2.1 60 = .ok (.if_icmp .ge 25, 3) := by decide +kernel
theorem dX3_cover_63 : decode M_X3_cover.2.1 63 = .ok (.aload_n 0, 1) := by decide +kernel
theorem dX3_cover_64 : decode M_X3_cover.2.1 64 = .ok (.iload_n 1, 1) := by decide +kernel
theorem dX3_cover_65 : decode M_X3_cover.2.1 65 = .ok (.iload_n 2, 1) := by decide +kernel
theorem dX3_cover_66 : decode M_X3_cover.2.1 66 = .ok (.iload 6, 2) := by decide +kernel
theorem dX3_cover_68 : decode M_X3_cover.2.1 68 = .ok (.invokevirtual 190, 3) := by decide +kernel
theorem dX3_cover_71 : decode M_X3_cover.2.1 71 = .ok (.ifCond .eq 14, 3) := by decide +kernel
theorem dX3_cover_74 : decode M_X3_cover.2.1 74 = .ok (.iload 6, 2) := by decide +kernel
theorem dX3_cover_76 : decode M_X3_cover.2.1 76 = .ok (.istore 4, 2) := by decide +kernel
theorem dX3_cover_78 : decode M_X3_cover.2.1 78 = .ok (.iload 6, 2) := by decide +kernel
theorem dX3_cover_80 : decode M_X3_cover.2.1 80 = .ok (.invokestatic 185, 3) := by decide +kernel
theorem dX3_cover_83 : decode M_X3_cover.2.1 83 = .ok (.istore 5, 2) := by decide +kernel
theorem dX3_cover_85 : decode M_X3_cover.2.1 85 = .ok (.iinc 6 1, 3) := by decide +kernel
theorem dX3_cover_88 : decode M_X3_cover.2.1 88 = .ok (.goto (-50), 3) := by decide +kernel
theorem dX3_cover_91 : decode M_X3_cover.2.1 91 = .ok (.iload 4, 2) := by decide +kernel
theorem dX3_cover_93 : decode M_X3_cover.2.1 93 = .ok (.ireturn, 1) := by decide +kernel
theorem ht_X3_185 : a_okS RX3 M_J6_bitCount_0f7a4 185 := ⟨a_in 518 (by decide +kernel) rfl, a_in 381 (by decide +kernel) rfl⟩
theorem hv_X3_190 : a_okV RX3 M_X3_covers 190 := ⟨a_in 519 (by decide +kernel) rfl, a_in 521 (by decide +kernel) rfl, a_in 12 (by decide +kernel) rfl⟩
def c_X3_cover_38 (a0 : Nat) (a1 : Int32) (a2 : Int32) (k38 : Int32 → Int32 → Int32 → Int32 → aW → Option (Int32 × aW)) (b3 : Int32) (b4 : Int32) (b5 : Int32) (b6 : Int32) (w : aW) : Option (Int32 × aW) :=
  if b3 < b6 then
    some (b4, w)
  else
    if ¬ (b6 &&& (b3 ^^^ (-1 : Int32))) = (0 : Int32) then
      k38 b3 b4 b5 (b6 + 1) w
    else
      bk (f_J6_bitCount_0f7a4 b6 w) fun x9 w8 =>
      if b5 ≤ x9 then
        k38 b3 b4 b5 (b6 + 1) w8
      else
        cV 2 w8 a0 (bk (f_X3_covers a0 a1 a2 b6 w8) fun x11 w10 =>
        if x11 = (0 : Int32) then
          k38 b3 b4 b5 (b6 + 1) w10
        else
          bk (f_J6_bitCount_0f7a4 b6 w10) fun x13 w12 =>
          k38 b3 b6 x13 (b6 + 1) w12)
theorem t_X3_cover_38 (a0 : Nat) (a1 : Int32) (a2 : Int32) (k38 : Int32 → Int32 → Int32 → Int32 → aW → Option (Int32 × aW)) (hk38 : ∀ (b3 : Int32) (b4 : Int32) (b5 : Int32) (b6 : Int32) (w : aW), Ev rvI M_X3_cover 38 [some (.ref a0), some (.int a1), some (.int a2), some (.int b3), some (.int b4), some (.int b5), some (.int b6)] [] w (k38 b3 b4 b5 b6 w)) (b3 : Int32) (b4 : Int32) (b5 : Int32) (b6 : Int32) (w : aW) : Ev rvI M_X3_cover 38 [some (.ref a0), some (.int a1), some (.int a2), some (.int b3), some (.int b4), some (.int b5), some (.int b6)] [] w (c_X3_cover_38 a0 a1 a2 k38 b3 b4 b5 b6 w) := by
  unfold c_X3_cover_38
  refine e_iload (pc := 38) dX3_cover_38 rfl ?_
  refine e_iload_n (pc := 40) dX3_cover_40 rfl rfl ?_
  refine e_icmp_gt (pc := 41) (tgt := 91) dX3_cover_41 (by decide) (fun _ => ?_) (fun _ => ?_)
  · refine e_iload (pc := 91) dX3_cover_91 rfl ?_
    exact e_iret (pc := 93) dX3_cover_93 rfl rfl
  · refine e_iload (pc := 44) dX3_cover_44 rfl ?_
    refine e_iload_n (pc := 46) dX3_cover_46 rfl rfl ?_
    refine e_iconst (pc := 47) dX3_cover_47 kc_m1 ?_
    refine e_ixor (pc := 48) dX3_cover_48 ?_
    refine e_iand (pc := 49) dX3_cover_49 ?_
    refine e_if_ne (pc := 50) (tgt := 85) dX3_cover_50 (by decide) (fun _ => ?_) (fun _ => ?_)
    · refine e_iinc (L' := [some (.ref a0), some (.int a1), some (.int a2), some (.int b3), some (.int b4), some (.int b5), some (.int (b6 + 1))]) (pc := 85) (v := 1) dX3_cover_85 (by decide) rfl kc_1 rfl ?_
      refine e_goto (pc := 88) (tgt := 38) dX3_cover_88 (by decide) ?_
      exact hk38 b3 b4 b5 (b6 + 1) w
    · refine e_iload (pc := 53) dX3_cover_53 rfl ?_
      refine e_callS (pc := 55) (av := [.int b6]) (S := []) ok_J6_bitCount_0f7a4 ⟨Nat.le_of_ble_eq_true rfl, Nat.le_of_ble_eq_true rfl⟩ ht_X3_185 dX3_cover_55 (s_J6_bitCount_0f7a4 b6 w) rfl rfl (Nat.le_of_ble_eq_true rfl) (fun x9 w8 => ?_)
      refine e_iload (pc := 58) dX3_cover_58 rfl ?_
      refine e_icmp_ge (pc := 60) (tgt := 85) dX3_cover_60 (by decide) (fun _ => ?_) (fun _ => ?_)
      · refine e_iinc (L' := [some (.ref a0), some (.int a1), some (.int a2), some (.int b3), some (.int b4), some (.int b5), some (.int (b6 + 1))]) (pc := 85) (v := 1) dX3_cover_85 (by decide) rfl kc_1 rfl ?_
        refine e_goto (pc := 88) (tgt := 38) dX3_cover_88 (by decide) ?_
        exact hk38 b3 b4 b5 (b6 + 1) w8
      · refine e_aload_n (pc := 63) dX3_cover_63 rfl rfl ?_
        refine e_iload_n (pc := 64) dX3_cover_64 rfl rfl ?_
        refine e_iload_n (pc := 65) dX3_cover_65 rfl rfl ?_
        refine e_iload (pc := 66) dX3_cover_66 rfl ?_
        refine e_callV (pc := 68) (av := [.int a1, .int a2, .int b6]) (S := []) (c0 := 2) rfl rfl ok_X3_covers ⟨Nat.le_of_ble_eq_true rfl, Nat.le_of_ble_eq_true rfl⟩ hv_X3_190 dX3_cover_68 (s_X3_covers a0 a1 a2 b6 w8) rfl rfl (Nat.le_of_ble_eq_true rfl) (fun x11 w10 => ?_)
        refine e_if_eq (pc := 71) (tgt := 85) dX3_cover_71 (by decide) (fun _ => ?_) (fun _ => ?_)
        · refine e_iinc (L' := [some (.ref a0), some (.int a1), some (.int a2), some (.int b3), some (.int b4), some (.int b5), some (.int (b6 + 1))]) (pc := 85) (v := 1) dX3_cover_85 (by decide) rfl kc_1 rfl ?_
          refine e_goto (pc := 88) (tgt := 38) dX3_cover_88 (by decide) ?_
          exact hk38 b3 b4 b5 (b6 + 1) w10
        · refine e_iload (pc := 74) dX3_cover_74 rfl ?_
          refine e_istore (L' := [some (.ref a0), some (.int a1), some (.int a2), some (.int b3), some (.int b6), some (.int b5), some (.int b6)]) (pc := 76) dX3_cover_76 (by decide) rfl ?_
          refine e_iload (pc := 78) dX3_cover_78 rfl ?_
          refine e_callS (pc := 80) (av := [.int b6]) (S := []) ok_J6_bitCount_0f7a4 ⟨Nat.le_of_ble_eq_true rfl, Nat.le_of_ble_eq_true rfl⟩ ht_X3_185 dX3_cover_80 (s_J6_bitCount_0f7a4 b6 w10) rfl rfl (Nat.le_of_ble_eq_true rfl) (fun x13 w12 => ?_)
          refine e_istore (L' := [some (.ref a0), some (.int a1), some (.int a2), some (.int b3), some (.int b6), some (.int x13), some (.int b6)]) (pc := 83) dX3_cover_83 (by decide) rfl ?_
          refine e_iinc (L' := [some (.ref a0), some (.int a1), some (.int a2), some (.int b3), some (.int b6), some (.int x13), some (.int (b6 + 1))]) (pc := 85) (v := 1) dX3_cover_85 (by decide) rfl kc_1 rfl ?_
          refine e_goto (pc := 88) (tgt := 38) dX3_cover_88 (by decide) ?_
          exact hk38 b3 b6 x13 (b6 + 1) w12
def f_X3_cover (a0 : Nat) (a1 : Int32) (a2 : Int32) (w : aW) : Option (Int32 × aW) :=
  bk (f_X3_isPerson a1 w) fun x2 w1 =>
  if x2 = (0 : Int32) then
    some ((-1 : Int32), w1)
  else
    bk (f_X3_within a2 (0 : Int32) (99 : Int32) w1) fun x4 w3 =>
    if ¬ x4 = (0 : Int32) then
      (gR 2 w3 a0 0).bind fun r5 =>
      cV 0 w3 r5 (bk (f_X0_freeOnes r5 w3) fun x7 w6 =>
      loop5 (c_X3_cover_38 a0 a1 a2) a_fuel x7 (-4 : Int32) (10 : Int32) (0 : Int32) w6)
    else
      some ((-1 : Int32), w3)
theorem s_X3_cover (a0 : Nat) (a1 : Int32) (a2 : Int32) (w : aW) : Sp rvI M_X3_cover [.ref a0, .int a1, .int a2] w (f_X3_cover a0 a1 a2 w) := by
  refine e_entry [some (.ref a0), some (.int a1), some (.int a2), none, none, none, none] (by decide +kernel) (Nat.le_of_ble_eq_true rfl) (fun _ => rfl) ?_
  unfold f_X3_cover
  refine e_iload_n (pc := 0) dX3_cover_0 rfl rfl ?_
  refine e_callS (pc := 1) (av := [.int a1]) (S := []) ok_X3_isPerson ⟨Nat.le_of_ble_eq_true rfl, Nat.le_of_ble_eq_true rfl⟩ ht_X3_94 dX3_cover_1 (s_X3_isPerson a1 w) rfl rfl (Nat.le_of_ble_eq_true rfl) (fun x2 w1 => ?_)
  refine e_if_eq (pc := 4) (tgt := 17) dX3_cover_4 (by decide) (fun _ => ?_) (fun _ => ?_)
  · refine e_iconst (pc := 17) dX3_cover_17 kc_m1 ?_
    exact e_iret (pc := 18) dX3_cover_18 rfl rfl
  · refine e_iload_n (pc := 7) dX3_cover_7 rfl rfl ?_
    refine e_iconst (pc := 8) dX3_cover_8 kc_0 ?_
    refine e_bipush (pc := 9) dX3_cover_9 kb_99 ?_
    refine e_callS (pc := 11) (av := [.int a2, .int (0 : Int32), .int (99 : Int32)]) (S := []) ok_X3_within ⟨Nat.le_of_ble_eq_true rfl, Nat.le_of_ble_eq_true rfl⟩ ht_X3_87 dX3_cover_11 (s_X3_within a2 (0 : Int32) (99 : Int32) w1) rfl rfl (Nat.le_of_ble_eq_true rfl) (fun x4 w3 => ?_)
    refine e_if_ne (pc := 14) (tgt := 19) dX3_cover_14 (by decide) (fun _ => ?_) (fun _ => ?_)
    · refine e_aload_n (pc := 19) dX3_cover_19 rfl rfl ?_
      refine e_getR (pc := 20) dX3_cover_20 hs_X3_10 (fun r5 => ?_)
      refine e_callV (pc := 23) (av := []) (S := []) (c0 := 0) rfl rfl ok_X0_freeOnes ⟨Nat.le_of_ble_eq_true rfl, Nat.le_of_ble_eq_true rfl⟩ hv_X3_178 dX3_cover_23 (s_X0_freeOnes r5 w3) rfl rfl (Nat.le_of_ble_eq_true rfl) (fun x7 w6 => ?_)
      refine e_istore_n (L' := [some (.ref a0), some (.int a1), some (.int a2), some (.int x7), none, none, none]) (pc := 26) dX3_cover_26 rfl (by decide) rfl ?_
      refine e_bipush (pc := 27) dX3_cover_27 kb_m4 ?_
      refine e_istore (L' := [some (.ref a0), some (.int a1), some (.int a2), some (.int x7), some (.int (-4 : Int32)), none, none]) (pc := 29) dX3_cover_29 (by decide) rfl ?_
      refine e_bipush (pc := 31) dX3_cover_31 kb_10 ?_
      refine e_istore (L' := [some (.ref a0), some (.int a1), some (.int a2), some (.int x7), some (.int (-4 : Int32)), some (.int (10 : Int32)), none]) (pc := 33) dX3_cover_33 (by decide) rfl ?_
      refine e_iconst (pc := 35) dX3_cover_35 kc_0 ?_
      refine e_istore (L' := [some (.ref a0), some (.int a1), some (.int a2), some (.int x7), some (.int (-4 : Int32)), some (.int (10 : Int32)), some (.int (0 : Int32))]) (pc := 36) dX3_cover_36 (by decide) rfl ?_
      exact e_loop5 (L := fun b3 b4 b5 b6 => [some (.ref a0), some (.int a1), some (.int a2), some (.int b3), some (.int b4), some (.int b5), some (.int b6)]) (S := fun b3 b4 b5 b6 => []) (fun kf hkf => t_X3_cover_38 a0 a1 a2  kf hkf) _ x7 (-4 : Int32) (10 : Int32) (0 : Int32) w6
    · refine e_iconst (pc := 17) dX3_cover_17 kc_m1 ?_
      exact e_iret (pc := 18) dX3_cover_18 rfl rfl
def M_X3_savesTheRest : aM := (yX3_savesTheRest, cX3_savesTheRest, 4, (some .boolean), 5, 114)
theorem ok_X3_savesTheRest : a_okM M_X3_savesTheRest 3 := ⟨⟨by decide +kernel, by decide +kernel⟩, by decide +kernel, a_in 536 (by decide +kernel) rfl, a_in 76 (by decide +kernel) rfl⟩
theorem dX3_savesTheRest_0 : decode M_X3_savesTheRest.2.1 0 = .ok (.aload_n 0, 1) := by decide +kernel
theorem dX3_savesTheRest_1 : decode M_X3_savesTheRest.2.1 1 = .ok (.invokevirtual 56, 3) := by decide +kernel
theorem dX3_savesTheRest_4 : decode M_X3_savesTheRest.2.1 4 = .ok (.aload_n 0, 1) := by decide +kernel
theorem dX3_savesTheRest_5 : decode M_X3_savesTheRest.2.1 5 = .ok (.getfield 16, 3) := by decide +kernel
theorem dX3_savesTheRest_8 : decode M_X3_savesTheRest.2.1 8 = .ok (.iload_n 2, 1) := by decide +kernel
theorem dX3_savesTheRest_9 : decode M_X3_savesTheRest.2.1 9 = .ok (.bipush (-4), 2) := by decide +kernel
theorem dX3_savesTheRest_11 : decode M_X3_savesTheRest.2.1 11 = .ok (.invokevirtual 339, 3) := by decide +kernel
theorem dX3_savesTheRest_14 : decode M_X3_savesTheRest.2.1 14 = .ok (.aload_n 0, 1) := by decide +kernel
theorem dX3_savesTheRest_15 : decode M_X3_savesTheRest.2.1 15 = .ok (.getfield 16, 3) := by decide +kernel
theorem dX3_savesTheRest_18 : decode M_X3_savesTheRest.2.1 18 = .ok (.iload_n 1, 1) := by decide +kernel
theorem dX3_savesTheRest_19 : decode M_X3_savesTheRest.2.1 19 = .ok (.iload_n 2, 1) := by decide +kernel
theorem dX3_savesTheRest_20 : decode M_X3_savesTheRest.2.1 20 = .ok (.iconst (-1), 1) := by decide +kernel
theorem dX3_savesTheRest_21 : decode M_X3_savesTheRest.2.1 21 = .ok (.ixor, 1) := by decide +kernel
theorem dX3_savesTheRest_22 : decode M_X3_savesTheRest.2.1 22 = .ok (.iand, 1) := by decide +kernel
theorem dX3_savesTheRest_23 : decode M_X3_savesTheRest.2.1 23 = .ok (.iload_n 3, 1) := by decide +kernel
theorem dX3_savesTheRest_24 : decode M_X3_savesTheRest.2.1 24 = .ok (.invokevirtual 199, 3) := by decide +kernel
theorem dX3_savesTheRest_27 : decode M_X3_savesTheRest.2.1 27 = .ok (.ireturn, 1) := by decide +kernel
def f_X3_savesTheRest (a0 : Nat) (a1 : Int32) (a2 : Int32) (a3 : Int32) (w : aW) : Option (Int32 × aW) :=
  cV 2 w a0 (bk (f_X3_think a0 w) fun _ w1 =>
  (gR 2 w1 a0 1).bind fun r2 =>
  cV 0 w1 r2 (bk (f_X0_giveAll r2 a2 (-4 : Int32) w1) fun _ w3 =>
  (gR 2 w3 a0 1).bind fun r4 =>
  cV 0 w3 r4 (bk (f_X0_keepsAlive r4 (a1 &&& (a2 ^^^ (-1 : Int32))) a3 w3) fun x6 w5 =>
  if ¬ (x6 = 0 ∨ x6 = 1) then none else some (x6, w5))))
theorem s_X3_savesTheRest (a0 : Nat) (a1 : Int32) (a2 : Int32) (a3 : Int32) (w : aW) : Sp rvI M_X3_savesTheRest [.ref a0, .int a1, .int a2, .int a3] w (f_X3_savesTheRest a0 a1 a2 a3 w) := by
  refine e_entry [some (.ref a0), some (.int a1), some (.int a2), some (.int a3)] (by decide +kernel) (Nat.le_of_ble_eq_true rfl) (fun _ => rfl) ?_
  unfold f_X3_savesTheRest
  refine e_aload_n (pc := 0) dX3_savesTheRest_0 rfl rfl ?_
  refine e_callV (pc := 1) (av := []) (S := []) (c0 := 2) rfl rfl ok_X3_think ⟨Nat.le_of_ble_eq_true rfl, Nat.le_of_ble_eq_true rfl⟩ hv_X3_56 dX3_savesTheRest_1 (s_X3_think a0 w) rfl rfl (Nat.le_of_ble_eq_true rfl) (fun _ w1 => ?_)
  refine e_aload_n (pc := 4) dX3_savesTheRest_4 rfl rfl ?_
  refine e_getR (pc := 5) dX3_savesTheRest_5 hs_X3_16 (fun r2 => ?_)
  refine e_iload_n (pc := 8) dX3_savesTheRest_8 rfl rfl ?_
  refine e_bipush (pc := 9) dX3_savesTheRest_9 kb_m4 ?_
  refine e_callV (pc := 11) (av := [.int a2, .int (-4 : Int32)]) (S := []) (c0 := 0) rfl rfl ok_X0_giveAll ⟨Nat.le_of_ble_eq_true rfl, Nat.le_of_ble_eq_true rfl⟩ hv_X3_339 dX3_savesTheRest_11 (s_X0_giveAll r2 a2 (-4 : Int32) w1) rfl rfl (Nat.le_of_ble_eq_true rfl) (fun _ w3 => ?_)
  refine e_aload_n (pc := 14) dX3_savesTheRest_14 rfl rfl ?_
  refine e_getR (pc := 15) dX3_savesTheRest_15 hs_X3_16 (fun r4 => ?_)
  refine e_iload_n (pc := 18) dX3_savesTheRest_18 rfl rfl ?_
  refine e_iload_n (pc := 19) dX3_savesTheRest_19 rfl rfl ?_
  refine e_iconst (pc := 20) dX3_savesTheRest_20 kc_m1 ?_
  refine e_ixor (pc := 21) dX3_savesTheRest_21 ?_
  refine e_iand (pc := 22) dX3_savesTheRest_22 ?_
  refine e_iload_n (pc := 23) dX3_savesTheRest_23 rfl rfl ?_
  refine e_callV (pc := 24) (av := [.int (a1 &&& (a2 ^^^ (-1 : Int32))), .int a3]) (S := []) (c0 := 0) rfl rfl ok_X0_keepsAlive ⟨Nat.le_of_ble_eq_true rfl, Nat.le_of_ble_eq_true rfl⟩ hv_X3_199 dX3_savesTheRest_24 (s_X0_keepsAlive r4 (a1 &&& (a2 ^^^ (-1 : Int32))) a3 w3) rfl rfl (Nat.le_of_ble_eq_true rfl) (fun x6 w5 => ?_)
  refine e_chk (fun h7 => ?_)
  exact e_iret (pc := 27) dX3_savesTheRest_27 rfl (a_nb (Decidable.not_not.mp h7))
def M_X3_letGo : aM := (yX3_letGo, cX3_letGo, 7, (some .int), 6, 137)
theorem ok_X3_letGo : a_okM M_X3_letGo 2 := ⟨⟨by decide +kernel, by decide +kernel⟩, by decide +kernel, a_in 532 (by decide +kernel) rfl, a_in 76 (by decide +kernel) rfl⟩
theorem dX3_letGo_0 : decode M_X3_letGo.2.1 0 = .ok (.iload_n 1, 1) := by decide +kernel
theorem dX3_letGo_1 : decode M_X3_letGo.2.1 1 = .ok (.invokestatic 94, 3) := by decide +kernel
theorem dX3_letGo_4 : decode M_X3_letGo.2.1 4 = .ok (.ifCond .eq 13, 3) := by decide +kernel
theorem dX3_letGo_7 : decode M_X3_letGo.2.1 7 = .ok (.iload_n 2, 1) := by decide +kernel
theorem dX3_letGo_8 : decode M_X3_letGo.2.1 8 = .ok (.iconst 0, 1) := by decide +kernel
theorem dX3_letGo_9 : decode M_X3_letGo.2.1 9 = .ok (.bipush 20, 2) := by decide +kernel
theorem dX3_letGo_11 : decode M_X3_letGo.2.1 11 = .ok (.invokestatic 87, 3) := by decide +kernel
theorem dX3_letGo_14 : decode M_X3_letGo.2.1 14 = .ok (.ifCond .ne 5, 3) := by decide +kernel
theorem dX3_letGo_17 : decode M_X3_letGo.2.1 17 = .ok (.iconst (-1), 1) := by decide +kernel
theorem dX3_letGo_18 : decode M_X3_letGo.2.1 18 = .ok (.ireturn, 1) := by decide +kernel
theorem dX3_letGo_19 : decode M_X3_letGo.2.1 19 = .ok (.aload_n 0, 1) := by decide +kernel
theorem dX3_letGo_20 : decode M_X3_letGo.2.1 20 = .ok (.getfield 10, 3) := by decide +kernel
theorem dX3_letGo_23 : decode M_X3_letGo.2.1 23 = .ok (.iload_n 1, 1) := by decide +kernel
theorem dX3_letGo_24 : decode M_X3_letGo.2.1 24 = .ok (.invokevirtual 148, 3) := by decide +kernel
theorem dX3_letGo_27 : decode M_X3_letGo.2.1 27 = .ok (.istore_n 3, 1) := by decide +kernel
theorem dX3_letGo_28 : decode M_X3_letGo.2.1 28 = .ok (.iload_n 3, 1) := by decide +kernel
theorem dX3_letGo_29 : decode M_X3_letGo.2.1 29 = .ok (.istore 4, 2) := by decide +kernel
theorem dX3_letGo_31 : decode M_X3_letGo.2.1 31 = .ok (.bipush 10, 2) := by decide +kernel
theorem dX3_letGo_33 : decode M_X3_letGo.2.1 33 = .ok (.istore 5, 2) := by decide +kernel
theorem dX3_letGo_35 : decode M_X3_letGo.2.1 35 = .ok (.iconst 0, 1) := by decide +kernel
theorem dX3_letGo_36 : decode M_X3_letGo.2.1 36 = .ok (.istore 6, 2) := by decide +kernel
theorem dX3_letGo_38 : decode M_X3_letGo.2.1 38 = .ok (.iload 6, 2) := by decide +kernel
theorem dX3_letGo_40 : decode M_X3_letGo.2.1 40 = .ok (.iload_n 3, 1) := by decide +kernel
theorem dX3_letGo_41 : decode M_X3_letGo.2.1 41 = .ok (.if_icmp .gt 50, 3) := by decide +kernel
theorem dX3_letGo_44 : decode M_X3_letGo.2.1 44 = .ok (.iload 6, 2) := by decide +kernel
theorem dX3_letGo_46 : decode M_X3_letGo.2.1 46 = .ok (.iload_n 3, 1) := by decide +kernel
theorem dX3_letGo_47 : decode M_X3_letGo.2.1 47 = .ok (.iconst (-1), 1) := by decide +kernel
theorem dX3_letGo_48 : decode M_X3_letGo.2.1 48 = .ok (.ixor, 1) := by decide +kernel
theorem dX3_letGo_49 : decode M_X3_letGo.2.1 49 = .ok (.iand, 1) := by decide +kernel
theorem dX3_letGo_50 : decode M_X3_letGo.2.1 50 = .ok (.ifCond .ne 35, 3) := by decide +kernel
theorem dX3_letGo_53 : decode M_X3_letGo.2.1 53 = .ok (.iload 6, 2) := by decide +kernel
theorem dX3_letGo_55 : decode M_X3_letGo.2.1 55 = .ok (.invokestatic 185, 3) := by decide +kernel
theorem dX3_letGo_58 : decode M_X3_letGo.2.1 58 = .ok (.iload 5, 2) := by decide +kernel
theorem dX3_letGo_60 : decode M_X3_letGo.2.1 60 = .ok (.if_icmp .ge 25, 3) := by decide +kernel
theorem dX3_letGo_63 : decode M_X3_letGo.2.1 63 = .ok (.aload_n 0, 1) := by decide +kernel
theorem dX3_letGo_64 : decode M_X3_letGo.2.1 64 = .ok (.iload_n 3, 1) := by decide +kernel
theorem dX3_letGo_65 : decode M_X3_letGo.2.1 65 = .ok (.iload 6, 2) := by decide +kernel
theorem dX3_letGo_67 : decode M_X3_letGo.2.1 67 = .ok (.iload_n 2, 1) := by decide +kernel
theorem dX3_letGo_68 : decode M_X3_letGo.2.1 68 = .ok (.invokevirtual 193, 3) := by decide +kernel
theorem dX3_letGo_71 : decode M_X3_letGo.2.1 71 = .ok (.ifCond .eq 14, 3) := by decide +kernel
theorem dX3_letGo_74 : decode M_X3_letGo.2.1 74 = .ok (.iload 6, 2) := by decide +kernel
theorem dX3_letGo_76 : decode M_X3_letGo.2.1 76 = .ok (.istore 4, 2) := by decide +kernel
theorem dX3_letGo_78 : decode M_X3_letGo.2.1 78 = .ok (.iload 6, 2) := by decide +kernel
theorem dX3_letGo_80 : decode M_X3_letGo.2.1 80 = .ok (.invokestatic 185, 3) := by decide +kernel
theorem dX3_letGo_83 : decode M_X3_letGo.2.1 83 = .ok (.istore 5, 2) := by decide +kernel
theorem dX3_letGo_85 : decode M_X3_letGo.2.1 85 = .ok (.iinc 6 1, 3) := by decide +kernel
theorem dX3_letGo_88 : decode M_X3_letGo.2.1 88 = .ok (.goto (-50), 3) := by decide +kernel
theorem dX3_letGo_91 : decode M_X3_letGo.2.1 91 = .ok (.iload 4, 2) := by decide +kernel
theorem dX3_letGo_93 : decode M_X3_letGo.2.1 93 = .ok (.ireturn, 1) := by decide +kernel
theorem hv_X3_193 : a_okV RX3 M_X3_savesTheRest 193 := ⟨a_in 533 (by decide +kernel) rfl, a_in 535 (by decide +kernel) rfl, a_in 13 (by decide +kernel) rfl⟩
def c_X3_letGo_38 (a0 : Nat) (a1 : Int32) (a2 : Int32) (k38 : Int32 → Int32 → Int32 → Int32 → aW → Option (Int32 × aW)) (b3 : Int32) (b4 : Int32) (b5 : Int32) (b6 : Int32) (w : aW) : Option (Int32 × aW) :=
  if b3 < b6 then
    some (b4, w)
  else
    if ¬ (b6 &&& (b3 ^^^ (-1 : Int32))) = (0 : Int32) then
      k38 b3 b4 b5 (b6 + 1) w
    else
      bk (f_J6_bitCount_0f7a4 b6 w) fun x9 w8 =>
      if b5 ≤ x9 then
        k38 b3 b4 b5 (b6 + 1) w8
      else
        cV 2 w8 a0 (bk (f_X3_savesTheRest a0 b3 b6 a2 w8) fun x11 w10 =>
        if x11 = (0 : Int32) then
          k38 b3 b4 b5 (b6 + 1) w10
        else
          bk (f_J6_bitCount_0f7a4 b6 w10) fun x13 w12 =>
          k38 b3 b6 x13 (b6 + 1) w12)
theorem t_X3_letGo_38 (a0 : Nat) (a1 : Int32) (a2 : Int32) (k38 : Int32 → Int32 → Int32 → Int32 → aW → Option (Int32 × aW)) (hk38 : ∀ (b3 : Int32) (b4 : Int32) (b5 : Int32) (b6 : Int32) (w : aW), Ev rvI M_X3_letGo 38 [some (.ref a0), none, some (.int a2), some (.int b3), some (.int b4), some (.int b5), some (.int b6)] [] w (k38 b3 b4 b5 b6 w)) (b3 : Int32) (b4 : Int32) (b5 : Int32) (b6 : Int32) (w : aW) : Ev rvI M_X3_letGo 38 [some (.ref a0), none, some (.int a2), some (.int b3), some (.int b4), some (.int b5), some (.int b6)] [] w (c_X3_letGo_38 a0 a1 a2 k38 b3 b4 b5 b6 w) := by
  unfold c_X3_letGo_38
  refine e_iload (pc := 38) dX3_letGo_38 rfl ?_
  refine e_iload_n (pc := 40) dX3_letGo_40 rfl rfl ?_
  refine e_icmp_gt (pc := 41) (tgt := 91) dX3_letGo_41 (by decide) (fun _ => ?_) (fun _ => ?_)
  · refine e_iload (pc := 91) dX3_letGo_91 rfl ?_
    exact e_iret (pc := 93) dX3_letGo_93 rfl rfl
  · refine e_iload (pc := 44) dX3_letGo_44 rfl ?_
    refine e_iload_n (pc := 46) dX3_letGo_46 rfl rfl ?_
    refine e_iconst (pc := 47) dX3_letGo_47 kc_m1 ?_
    refine e_ixor (pc := 48) dX3_letGo_48 ?_
    refine e_iand (pc := 49) dX3_letGo_49 ?_
    refine e_if_ne (pc := 50) (tgt := 85) dX3_letGo_50 (by decide) (fun _ => ?_) (fun _ => ?_)
    · refine e_iinc (L' := [some (.ref a0), none, some (.int a2), some (.int b3), some (.int b4), some (.int b5), some (.int (b6 + 1))]) (pc := 85) (v := 1) dX3_letGo_85 (by decide) rfl kc_1 rfl ?_
      refine e_goto (pc := 88) (tgt := 38) dX3_letGo_88 (by decide) ?_
      exact hk38 b3 b4 b5 (b6 + 1) w
    · refine e_iload (pc := 53) dX3_letGo_53 rfl ?_
      refine e_callS (pc := 55) (av := [.int b6]) (S := []) ok_J6_bitCount_0f7a4 ⟨Nat.le_of_ble_eq_true rfl, Nat.le_of_ble_eq_true rfl⟩ ht_X3_185 dX3_letGo_55 (s_J6_bitCount_0f7a4 b6 w) rfl rfl (Nat.le_of_ble_eq_true rfl) (fun x9 w8 => ?_)
      refine e_iload (pc := 58) dX3_letGo_58 rfl ?_
      refine e_icmp_ge (pc := 60) (tgt := 85) dX3_letGo_60 (by decide) (fun _ => ?_) (fun _ => ?_)
      · refine e_iinc (L' := [some (.ref a0), none, some (.int a2), some (.int b3), some (.int b4), some (.int b5), some (.int (b6 + 1))]) (pc := 85) (v := 1) dX3_letGo_85 (by decide) rfl kc_1 rfl ?_
        refine e_goto (pc := 88) (tgt := 38) dX3_letGo_88 (by decide) ?_
        exact hk38 b3 b4 b5 (b6 + 1) w8
      · refine e_aload_n (pc := 63) dX3_letGo_63 rfl rfl ?_
        refine e_iload_n (pc := 64) dX3_letGo_64 rfl rfl ?_
        refine e_iload (pc := 65) dX3_letGo_65 rfl ?_
        refine e_iload_n (pc := 67) dX3_letGo_67 rfl rfl ?_
        refine e_callV (pc := 68) (av := [.int b3, .int b6, .int a2]) (S := []) (c0 := 2) rfl rfl ok_X3_savesTheRest ⟨Nat.le_of_ble_eq_true rfl, Nat.le_of_ble_eq_true rfl⟩ hv_X3_193 dX3_letGo_68 (s_X3_savesTheRest a0 b3 b6 a2 w8) rfl rfl (Nat.le_of_ble_eq_true rfl) (fun x11 w10 => ?_)
        refine e_if_eq (pc := 71) (tgt := 85) dX3_letGo_71 (by decide) (fun _ => ?_) (fun _ => ?_)
        · refine e_iinc (L' := [some (.ref a0), none, some (.int a2), some (.int b3), some (.int b4), some (.int b5), some (.int (b6 + 1))]) (pc := 85) (v := 1) dX3_letGo_85 (by decide) rfl kc_1 rfl ?_
          refine e_goto (pc := 88) (tgt := 38) dX3_letGo_88 (by decide) ?_
          exact hk38 b3 b4 b5 (b6 + 1) w10
        · refine e_iload (pc := 74) dX3_letGo_74 rfl ?_
          refine e_istore (L' := [some (.ref a0), none, some (.int a2), some (.int b3), some (.int b6), some (.int b5), some (.int b6)]) (pc := 76) dX3_letGo_76 (by decide) rfl ?_
          refine e_iload (pc := 78) dX3_letGo_78 rfl ?_
          refine e_callS (pc := 80) (av := [.int b6]) (S := []) ok_J6_bitCount_0f7a4 ⟨Nat.le_of_ble_eq_true rfl, Nat.le_of_ble_eq_true rfl⟩ ht_X3_185 dX3_letGo_80 (s_J6_bitCount_0f7a4 b6 w10) rfl rfl (Nat.le_of_ble_eq_true rfl) (fun x13 w12 => ?_)
          refine e_istore (L' := [some (.ref a0), none, some (.int a2), some (.int b3), some (.int b6), some (.int x13), some (.int b6)]) (pc := 83) dX3_letGo_83 (by decide) rfl ?_
          refine e_iinc (L' := [some (.ref a0), none, some (.int a2), some (.int b3), some (.int b6), some (.int x13), some (.int (b6 + 1))]) (pc := 85) (v := 1) dX3_letGo_85 (by decide) rfl kc_1 rfl ?_
          refine e_goto (pc := 88) (tgt := 38) dX3_letGo_88 (by decide) ?_
          exact hk38 b3 b6 x13 (b6 + 1) w12
def f_X3_letGo (a0 : Nat) (a1 : Int32) (a2 : Int32) (w : aW) : Option (Int32 × aW) :=
  bk (f_X3_isPerson a1 w) fun x2 w1 =>
  if x2 = (0 : Int32) then
    some ((-1 : Int32), w1)
  else
    bk (f_X3_within a2 (0 : Int32) (20 : Int32) w1) fun x4 w3 =>
    if ¬ x4 = (0 : Int32) then
      (gR 2 w3 a0 0).bind fun r5 =>
      cV 0 w3 r5 (bk (f_X0_calledBy r5 a1 w3) fun x7 w6 =>
      loop5 (c_X3_letGo_38 a0 a1 a2) a_fuel x7 x7 (10 : Int32) (0 : Int32) w6)
    else
      some ((-1 : Int32), w3)
theorem s_X3_letGo (a0 : Nat) (a1 : Int32) (a2 : Int32) (w : aW) : Sp rvI M_X3_letGo [.ref a0, .int a1, .int a2] w (f_X3_letGo a0 a1 a2 w) := by
  refine e_entry [some (.ref a0), some (.int a1), some (.int a2), none, none, none, none] (by decide +kernel) (Nat.le_of_ble_eq_true rfl) (fun _ => rfl) ?_
  unfold f_X3_letGo
  refine e_iload_n (pc := 0) dX3_letGo_0 rfl rfl ?_
  refine e_callS (pc := 1) (av := [.int a1]) (S := []) ok_X3_isPerson ⟨Nat.le_of_ble_eq_true rfl, Nat.le_of_ble_eq_true rfl⟩ ht_X3_94 dX3_letGo_1 (s_X3_isPerson a1 w) rfl rfl (Nat.le_of_ble_eq_true rfl) (fun x2 w1 => ?_)
  refine e_if_eq (pc := 4) (tgt := 17) dX3_letGo_4 (by decide) (fun _ => ?_) (fun _ => ?_)
  · refine e_iconst (pc := 17) dX3_letGo_17 kc_m1 ?_
    exact e_iret (pc := 18) dX3_letGo_18 rfl rfl
  · refine e_iload_n (pc := 7) dX3_letGo_7 rfl rfl ?_
    refine e_iconst (pc := 8) dX3_letGo_8 kc_0 ?_
    refine e_bipush (pc := 9) dX3_letGo_9 kb_20 ?_
    refine e_callS (pc := 11) (av := [.int a2, .int (0 : Int32), .int (20 : Int32)]) (S := []) ok_X3_within ⟨Nat.le_of_ble_eq_true rfl, Nat.le_of_ble_eq_true rfl⟩ ht_X3_87 dX3_letGo_11 (s_X3_within a2 (0 : Int32) (20 : Int32) w1) rfl rfl (Nat.le_of_ble_eq_true rfl) (fun x4 w3 => ?_)
    refine e_if_ne (pc := 14) (tgt := 19) dX3_letGo_14 (by decide) (fun _ => ?_) (fun _ => ?_)
    · refine e_aload_n (pc := 19) dX3_letGo_19 rfl rfl ?_
      refine e_getR (pc := 20) dX3_letGo_20 hs_X3_10 (fun r5 => ?_)
      refine e_iload_n (pc := 23) dX3_letGo_23 rfl rfl ?_
      refine e_callV (pc := 24) (av := [.int a1]) (S := []) (c0 := 0) rfl rfl ok_X0_calledBy ⟨Nat.le_of_ble_eq_true rfl, Nat.le_of_ble_eq_true rfl⟩ hv_X3_148 dX3_letGo_24 (s_X0_calledBy r5 a1 w3) rfl rfl (Nat.le_of_ble_eq_true rfl) (fun x7 w6 => ?_)
      refine e_istore_n (L' := [some (.ref a0), some (.int a1), some (.int a2), some (.int x7), none, none, none]) (pc := 27) dX3_letGo_27 rfl (by decide) rfl ?_
      refine e_iload_n (pc := 28) dX3_letGo_28 rfl rfl ?_
      refine e_istore (L' := [some (.ref a0), some (.int a1), some (.int a2), some (.int x7), some (.int x7), none, none]) (pc := 29) dX3_letGo_29 (by decide) rfl ?_
      refine e_bipush (pc := 31) dX3_letGo_31 kb_10 ?_
      refine e_istore (L' := [some (.ref a0), some (.int a1), some (.int a2), some (.int x7), some (.int x7), some (.int (10 : Int32)), none]) (pc := 33) dX3_letGo_33 (by decide) rfl ?_
      refine e_iconst (pc := 35) dX3_letGo_35 kc_0 ?_
      refine e_istore (L' := [some (.ref a0), some (.int a1), some (.int a2), some (.int x7), some (.int x7), some (.int (10 : Int32)), some (.int (0 : Int32))]) (pc := 36) dX3_letGo_36 (by decide) rfl ?_
      refine e_forget (L2 := [some (.ref a0), none, some (.int a2), some (.int x7), some (.int x7), some (.int (10 : Int32)), some (.int (0 : Int32))]) (And.intro rfl (And.intro rfl (And.intro rfl (And.intro rfl (And.intro rfl (And.intro rfl trivial)))))) ?_
      exact e_loop5 (L := fun b3 b4 b5 b6 => [some (.ref a0), none, some (.int a2), some (.int b3), some (.int b4), some (.int b5), some (.int b6)]) (S := fun b3 b4 b5 b6 => []) (fun kf hkf => t_X3_letGo_38 a0 a1 a2  kf hkf) _ x7 x7 (10 : Int32) (0 : Int32) w6
    · refine e_iconst (pc := 17) dX3_letGo_17 kc_m1 ?_
      exact e_iret (pc := 18) dX3_letGo_18 rfl rfl
def M_X3_stand : aM := (yX3_stand, cX3_stand, 8, (some .int), 6, 135)
theorem ok_X3_stand : a_okM M_X3_stand 3 := ⟨⟨by decide +kernel, by decide +kernel⟩, by decide +kernel, a_in 540 (by decide +kernel) rfl, a_in 76 (by decide +kernel) rfl⟩
theorem dX3_stand_0 : decode M_X3_stand.2.1 0 = .ok (.iload_n 1, 1) := by decide +kernel
theorem dX3_stand_1 : decode M_X3_stand.2.1 1 = .ok (.invokestatic 94, 3) := by decide +kernel
theorem dX3_stand_4 : decode M_X3_stand.2.1 4 = .ok (.ifCond .eq 22, 3) := by decide +kernel
theorem dX3_stand_7 : decode M_X3_stand.2.1 7 = .ok (.iload_n 2, 1) := by decide +kernel
theorem dX3_stand_8 : decode M_X3_stand.2.1 8 = .ok (.iconst 0, 1) := by decide +kernel
theorem dX3_stand_9 : decode M_X3_stand.2.1 9 = .ok (.bipush 20, 2) := by decide +kernel
theorem dX3_stand_11 : decode M_X3_stand.2.1 11 = .ok (.invokestatic 87, 3) := by decide +kernel
theorem dX3_stand_14 : decode M_X3_stand.2.1 14 = .ok (.ifCond .eq 12, 3) := by decide +kernel
theorem dX3_stand_17 : decode M_X3_stand.2.1 17 = .ok (.iload_n 3, 1) := by decide +kernel
theorem dX3_stand_18 : decode M_X3_stand.2.1 18 = .ok (.iconst 0, 1) := by decide +kernel
theorem dX3_stand_19 : decode M_X3_stand.2.1 19 = .ok (.iconst 1, 1) := by decide +kernel
theorem dX3_stand_20 : decode M_X3_stand.2.1 20 = .ok (.invokestatic 87, 3) := by decide +kernel
theorem dX3_stand_23 : decode M_X3_stand.2.1 23 = .ok (.ifCond .ne 5, 3) := by decide +kernel
theorem dX3_stand_26 : decode M_X3_stand.2.1 26 = .ok (.iconst (-1), 1) := by decide +kernel
theorem dX3_stand_27 : decode M_X3_stand.2.1 27 = .ok (.ireturn, 1) := by decide +kernel
theorem dX3_stand_28 : decode M_X3_stand.2.1 28 = .ok (.iconst (-1), 1) := by decide +kernel
theorem dX3_stand_29 : decode M_X3_stand.2.1 29 = .ok (.istore 4, 2) := by decide +kernel
theorem dX3_stand_31 : decode M_X3_stand.2.1 31 = .ok (.iconst 0, 1) := by decide +kernel
theorem dX3_stand_32 : decode M_X3_stand.2.1 32 = .ok (.istore 5, 2) := by decide +kernel
theorem dX3_stand_34 : decode M_X3_stand.2.1 34 = .ok (.iconst 0, 1) := by decide +kernel
theorem dX3_stand_35 : decode M_X3_stand.2.1 35 = .ok (.istore 6, 2) := by decide +kernel
theorem dX3_stand_37 : decode M_X3_stand.2.1 37 = .ok (.iload 6, 2) := by decide +kernel
theorem dX3_stand_39 : decode M_X3_stand.2.1 39 = .ok (.bipush 16, 2) := by decide +kernel
theorem dX3_stand_41 : decode M_X3_stand.2.1 41 = .ok (.if_icmp .ge 47, 3) := by decide +kernel
theorem dX3_stand_44 : decode M_X3_stand.2.1 44 = .ok (.aload_n 0, 1) := by decide +kernel
theorem dX3_stand_45 : decode M_X3_stand.2.1 45 = .ok (.invokevirtual 56, 3) := by decide +kernel
theorem dX3_stand_48 : decode M_X3_stand.2.1 48 = .ok (.aload_n 0, 1) := by decide +kernel
theorem dX3_stand_49 : decode M_X3_stand.2.1 49 = .ok (.getfield 16, 3) := by decide +kernel
theorem dX3_stand_52 : decode M_X3_stand.2.1 52 = .ok (.getfield 196, 3) := by decide +kernel
theorem dX3_stand_55 : decode M_X3_stand.2.1 55 = .ok (.iload_n 1, 1) := by decide +kernel
theorem dX3_stand_56 : decode M_X3_stand.2.1 56 = .ok (.iload 6, 2) := by decide +kernel
theorem dX3_stand_58 : decode M_X3_stand.2.1 58 = .ok (.iastore, 1) := by decide +kernel
theorem dX3_stand_59 : decode M_X3_stand.2.1 59 = .ok (.aload_n 0, 1) := by decide +kernel
theorem dX3_stand_60 : decode M_X3_stand.2.1 60 = .ok (.iload_n 1, 1) := by decide +kernel
theorem dX3_stand_61 : decode M_X3_stand.2.1 61 = .ok (.iload_n 2, 1) := by decide +kernel
theorem dX3_stand_62 : decode M_X3_stand.2.1 62 = .ok (.invokevirtual 175, 3) := by decide +kernel
theorem dX3_stand_65 : decode M_X3_stand.2.1 65 = .ok (.istore 7, 2) := by decide +kernel
theorem dX3_stand_67 : decode M_X3_stand.2.1 67 = .ok (.iload 7, 2) := by decide +kernel
theorem dX3_stand_69 : decode M_X3_stand.2.1 69 = .ok (.iload 4, 2) := by decide +kernel
theorem dX3_stand_71 : decode M_X3_stand.2.1 71 = .ok (.if_icmp .le 11, 3) := by decide +kernel
theorem dX3_stand_74 : decode M_X3_stand.2.1 74 = .ok (.iload 7, 2) := by decide +kernel
theorem dX3_stand_76 : decode M_X3_stand.2.1 76 = .ok (.istore 4, 2) := by decide +kernel
theorem dX3_stand_78 : decode M_X3_stand.2.1 78 = .ok (.iload 6, 2) := by decide +kernel
theorem dX3_stand_80 : decode M_X3_stand.2.1 80 = .ok (.istore 5, 2) := by decide +kernel
theorem dX3_stand_82 : decode M_X3_stand.2.1 82 = .ok (.iinc 6 1, 3) := by decide +kernel
theorem dX3_stand_85 : decode M_X3_stand.2.1 85 = .ok (.goto (-48), 3) := by decide +kernel
theorem dX3_stand_88 : decode M_X3_stand.2.1 88 = .ok (.iload_n 3, 1) := by decide +kernel
theorem dX3_stand_89 : decode M_X3_stand.2.1 89 = .ok (.ifCond .ne 8, 3) := by decide +kernel
theorem dX3_stand_92 : decode M_X3_stand.2.1 92 = .ok (.iload 5, 2) := by decide +kernel
theorem dX3_stand_94 : decode M_X3_stand.2.1 94 = .ok (.goto 5, 3) := by decide +kernel
theorem dX3_stand_97 : decode M_X3_stand.2.1 97 = .ok (.iload 4, 2) := by decide +kernel
theorem dX3_stand_99 : decode M_X3_stand.2.1 99 = .ok (.ireturn, 1) := by decide +kernel
theorem hs_X3_196 : a_fs RX3 196 0 10 := ⟨RX0, TX0, 13, rfl, tin_X0, by decide, a_in 125 (by decide +kernel) rfl⟩
def c_X3_stand_37 (a0 : Nat) (a1 : Int32) (a2 : Int32) (a3 : Int32) (k37 : Int32 → Int32 → Int32 → aW → Option (Int32 × aW)) (b4 : Int32) (b5 : Int32) (b6 : Int32) (w : aW) : Option (Int32 × aW) :=
  if (16 : Int32) ≤ b6 then
    if ¬ a3 = (0 : Int32) then
      some (b4, w)
    else
      some (b5, w)
  else
    cV 2 w a0 (bk (f_X3_think a0 w) fun _ w7 =>
    (gR 2 w7 a0 1).bind fun r8 =>
    (gR 0 w7 r8 10).bind fun r9 =>
    (sA w7 r9 a1 b6).bind fun w10 =>
    cV 2 w10 a0 (bk (f_X3_meansBehind a0 a1 a2 w10) fun x12 w11 =>
    if x12 ≤ b4 then
      k37 b4 b5 (b6 + 1) w11
    else
      k37 x12 b6 (b6 + 1) w11))
theorem t_X3_stand_37 (a0 : Nat) (a1 : Int32) (a2 : Int32) (a3 : Int32) (k37 : Int32 → Int32 → Int32 → aW → Option (Int32 × aW)) (hk37 : ∀ (b4 : Int32) (b5 : Int32) (b6 : Int32) (w : aW), Ev rvI M_X3_stand 37 [some (.ref a0), some (.int a1), some (.int a2), some (.int a3), some (.int b4), some (.int b5), some (.int b6), none] [] w (k37 b4 b5 b6 w)) (b4 : Int32) (b5 : Int32) (b6 : Int32) (w : aW) : Ev rvI M_X3_stand 37 [some (.ref a0), some (.int a1), some (.int a2), some (.int a3), some (.int b4), some (.int b5), some (.int b6), none] [] w (c_X3_stand_37 a0 a1 a2 a3 k37 b4 b5 b6 w) := by
  unfold c_X3_stand_37
  refine e_iload (pc := 37) dX3_stand_37 rfl ?_
  refine e_bipush (pc := 39) dX3_stand_39 kb_16 ?_
  refine e_icmp_ge (pc := 41) (tgt := 88) dX3_stand_41 (by decide) (fun _ => ?_) (fun _ => ?_)
  · refine e_iload_n (pc := 88) dX3_stand_88 rfl rfl ?_
    refine e_if_ne (pc := 89) (tgt := 97) dX3_stand_89 (by decide) (fun _ => ?_) (fun _ => ?_)
    · refine e_iload (pc := 97) dX3_stand_97 rfl ?_
      exact e_iret (pc := 99) dX3_stand_99 rfl rfl
    · refine e_iload (pc := 92) dX3_stand_92 rfl ?_
      refine e_goto (pc := 94) (tgt := 99) dX3_stand_94 (by decide) ?_
      exact e_iret (pc := 99) dX3_stand_99 rfl rfl
  · refine e_aload_n (pc := 44) dX3_stand_44 rfl rfl ?_
    refine e_callV (pc := 45) (av := []) (S := []) (c0 := 2) rfl rfl ok_X3_think ⟨Nat.le_of_ble_eq_true rfl, Nat.le_of_ble_eq_true rfl⟩ hv_X3_56 dX3_stand_45 (s_X3_think a0 w) rfl rfl (Nat.le_of_ble_eq_true rfl) (fun _ w7 => ?_)
    refine e_aload_n (pc := 48) dX3_stand_48 rfl rfl ?_
    refine e_getR (pc := 49) dX3_stand_49 hs_X3_16 (fun r8 => ?_)
    refine e_getR (pc := 52) dX3_stand_52 hs_X3_196 (fun r9 => ?_)
    refine e_iload_n (pc := 55) dX3_stand_55 rfl rfl ?_
    refine e_iload (pc := 56) dX3_stand_56 rfl ?_
    refine e_iast (pc := 58) dX3_stand_58 (fun w10 => ?_)
    refine e_aload_n (pc := 59) dX3_stand_59 rfl rfl ?_
    refine e_iload_n (pc := 60) dX3_stand_60 rfl rfl ?_
    refine e_iload_n (pc := 61) dX3_stand_61 rfl rfl ?_
    refine e_callV (pc := 62) (av := [.int a1, .int a2]) (S := []) (c0 := 2) rfl rfl ok_X3_meansBehind ⟨Nat.le_of_ble_eq_true rfl, Nat.le_of_ble_eq_true rfl⟩ hv_X3_175 dX3_stand_62 (s_X3_meansBehind a0 a1 a2 w10) rfl rfl (Nat.le_of_ble_eq_true rfl) (fun x12 w11 => ?_)
    refine e_istore (L' := [some (.ref a0), some (.int a1), some (.int a2), some (.int a3), some (.int b4), some (.int b5), some (.int b6), some (.int x12)]) (pc := 65) dX3_stand_65 (by decide) rfl ?_
    refine e_iload (pc := 67) dX3_stand_67 rfl ?_
    refine e_iload (pc := 69) dX3_stand_69 rfl ?_
    refine e_icmp_le (pc := 71) (tgt := 82) dX3_stand_71 (by decide) (fun _ => ?_) (fun _ => ?_)
    · refine e_iinc (L' := [some (.ref a0), some (.int a1), some (.int a2), some (.int a3), some (.int b4), some (.int b5), some (.int (b6 + 1)), some (.int x12)]) (pc := 82) (v := 1) dX3_stand_82 (by decide) rfl kc_1 rfl ?_
      refine e_goto (pc := 85) (tgt := 37) dX3_stand_85 (by decide) ?_
      refine e_forget (L2 := [some (.ref a0), some (.int a1), some (.int a2), some (.int a3), some (.int b4), some (.int b5), some (.int (b6 + 1)), none]) (And.intro rfl (And.intro rfl (And.intro rfl (And.intro rfl (And.intro rfl (And.intro rfl (And.intro rfl trivial))))))) ?_
      exact hk37 b4 b5 (b6 + 1) w11
    · refine e_iload (pc := 74) dX3_stand_74 rfl ?_
      refine e_istore (L' := [some (.ref a0), some (.int a1), some (.int a2), some (.int a3), some (.int x12), some (.int b5), some (.int b6), some (.int x12)]) (pc := 76) dX3_stand_76 (by decide) rfl ?_
      refine e_iload (pc := 78) dX3_stand_78 rfl ?_
      refine e_istore (L' := [some (.ref a0), some (.int a1), some (.int a2), some (.int a3), some (.int x12), some (.int b6), some (.int b6), some (.int x12)]) (pc := 80) dX3_stand_80 (by decide) rfl ?_
      refine e_iinc (L' := [some (.ref a0), some (.int a1), some (.int a2), some (.int a3), some (.int x12), some (.int b6), some (.int (b6 + 1)), some (.int x12)]) (pc := 82) (v := 1) dX3_stand_82 (by decide) rfl kc_1 rfl ?_
      refine e_goto (pc := 85) (tgt := 37) dX3_stand_85 (by decide) ?_
      refine e_forget (L2 := [some (.ref a0), some (.int a1), some (.int a2), some (.int a3), some (.int x12), some (.int b6), some (.int (b6 + 1)), none]) (And.intro rfl (And.intro rfl (And.intro rfl (And.intro rfl (And.intro rfl (And.intro rfl (And.intro rfl trivial))))))) ?_
      exact hk37 x12 b6 (b6 + 1) w11
def f_X3_stand (a0 : Nat) (a1 : Int32) (a2 : Int32) (a3 : Int32) (w : aW) : Option (Int32 × aW) :=
  bk (f_X3_isPerson a1 w) fun x2 w1 =>
  if x2 = (0 : Int32) then
    some ((-1 : Int32), w1)
  else
    bk (f_X3_within a2 (0 : Int32) (20 : Int32) w1) fun x4 w3 =>
    if x4 = (0 : Int32) then
      some ((-1 : Int32), w3)
    else
      bk (f_X3_within a3 (0 : Int32) (1 : Int32) w3) fun x6 w5 =>
      if ¬ x6 = (0 : Int32) then
        loop4 (c_X3_stand_37 a0 a1 a2 a3) a_fuel (-1 : Int32) (0 : Int32) (0 : Int32) w5
      else
        some ((-1 : Int32), w5)
theorem s_X3_stand (a0 : Nat) (a1 : Int32) (a2 : Int32) (a3 : Int32) (w : aW) : Sp rvI M_X3_stand [.ref a0, .int a1, .int a2, .int a3] w (f_X3_stand a0 a1 a2 a3 w) := by
  refine e_entry [some (.ref a0), some (.int a1), some (.int a2), some (.int a3), none, none, none, none] (by decide +kernel) (Nat.le_of_ble_eq_true rfl) (fun _ => rfl) ?_
  unfold f_X3_stand
  refine e_iload_n (pc := 0) dX3_stand_0 rfl rfl ?_
  refine e_callS (pc := 1) (av := [.int a1]) (S := []) ok_X3_isPerson ⟨Nat.le_of_ble_eq_true rfl, Nat.le_of_ble_eq_true rfl⟩ ht_X3_94 dX3_stand_1 (s_X3_isPerson a1 w) rfl rfl (Nat.le_of_ble_eq_true rfl) (fun x2 w1 => ?_)
  refine e_if_eq (pc := 4) (tgt := 26) dX3_stand_4 (by decide) (fun _ => ?_) (fun _ => ?_)
  · refine e_iconst (pc := 26) dX3_stand_26 kc_m1 ?_
    exact e_iret (pc := 27) dX3_stand_27 rfl rfl
  · refine e_iload_n (pc := 7) dX3_stand_7 rfl rfl ?_
    refine e_iconst (pc := 8) dX3_stand_8 kc_0 ?_
    refine e_bipush (pc := 9) dX3_stand_9 kb_20 ?_
    refine e_callS (pc := 11) (av := [.int a2, .int (0 : Int32), .int (20 : Int32)]) (S := []) ok_X3_within ⟨Nat.le_of_ble_eq_true rfl, Nat.le_of_ble_eq_true rfl⟩ ht_X3_87 dX3_stand_11 (s_X3_within a2 (0 : Int32) (20 : Int32) w1) rfl rfl (Nat.le_of_ble_eq_true rfl) (fun x4 w3 => ?_)
    refine e_if_eq (pc := 14) (tgt := 26) dX3_stand_14 (by decide) (fun _ => ?_) (fun _ => ?_)
    · refine e_iconst (pc := 26) dX3_stand_26 kc_m1 ?_
      exact e_iret (pc := 27) dX3_stand_27 rfl rfl
    · refine e_iload_n (pc := 17) dX3_stand_17 rfl rfl ?_
      refine e_iconst (pc := 18) dX3_stand_18 kc_0 ?_
      refine e_iconst (pc := 19) dX3_stand_19 kc_1 ?_
      refine e_callS (pc := 20) (av := [.int a3, .int (0 : Int32), .int (1 : Int32)]) (S := []) ok_X3_within ⟨Nat.le_of_ble_eq_true rfl, Nat.le_of_ble_eq_true rfl⟩ ht_X3_87 dX3_stand_20 (s_X3_within a3 (0 : Int32) (1 : Int32) w3) rfl rfl (Nat.le_of_ble_eq_true rfl) (fun x6 w5 => ?_)
      refine e_if_ne (pc := 23) (tgt := 28) dX3_stand_23 (by decide) (fun _ => ?_) (fun _ => ?_)
      · refine e_iconst (pc := 28) dX3_stand_28 kc_m1 ?_
        refine e_istore (L' := [some (.ref a0), some (.int a1), some (.int a2), some (.int a3), some (.int (-1 : Int32)), none, none, none]) (pc := 29) dX3_stand_29 (by decide) rfl ?_
        refine e_iconst (pc := 31) dX3_stand_31 kc_0 ?_
        refine e_istore (L' := [some (.ref a0), some (.int a1), some (.int a2), some (.int a3), some (.int (-1 : Int32)), some (.int (0 : Int32)), none, none]) (pc := 32) dX3_stand_32 (by decide) rfl ?_
        refine e_iconst (pc := 34) dX3_stand_34 kc_0 ?_
        refine e_istore (L' := [some (.ref a0), some (.int a1), some (.int a2), some (.int a3), some (.int (-1 : Int32)), some (.int (0 : Int32)), some (.int (0 : Int32)), none]) (pc := 35) dX3_stand_35 (by decide) rfl ?_
        exact e_loop4 (L := fun b4 b5 b6 => [some (.ref a0), some (.int a1), some (.int a2), some (.int a3), some (.int b4), some (.int b5), some (.int b6), none]) (S := fun b4 b5 b6 => []) (fun kf hkf => t_X3_stand_37 a0 a1 a2 a3  kf hkf) _ (-1 : Int32) (0 : Int32) (0 : Int32) w5
      · refine e_iconst (pc := 26) dX3_stand_26 kc_m1 ?_
        exact e_iret (pc := 27) dX3_stand_27 rfl rfl
def M_X3_least : aM := (yX3_least, cX3_least, 5, (some .int), 5, 114)
theorem ok_X3_least : a_okM M_X3_least 2 := ⟨⟨by decide +kernel, by decide +kernel⟩, by decide +kernel, a_in 544 (by decide +kernel) rfl, a_in 76 (by decide +kernel) rfl⟩
theorem dX3_least_0 : decode M_X3_least.2.1 0 = .ok (.iload_n 1, 1) := by decide +kernel
theorem dX3_least_1 : decode M_X3_least.2.1 1 = .ok (.invokestatic 94, 3) := by decide +kernel
theorem dX3_least_4 : decode M_X3_least.2.1 4 = .ok (.ifCond .eq 13, 3) := by decide +kernel
theorem dX3_least_7 : decode M_X3_least.2.1 7 = .ok (.iload_n 2, 1) := by decide +kernel
theorem dX3_least_8 : decode M_X3_least.2.1 8 = .ok (.iconst 0, 1) := by decide +kernel
theorem dX3_least_9 : decode M_X3_least.2.1 9 = .ok (.bipush 20, 2) := by decide +kernel
theorem dX3_least_11 : decode M_X3_least.2.1 11 = .ok (.invokestatic 87, 3) := by decide +kernel
theorem dX3_least_14 : decode M_X3_least.2.1 14 = .ok (.ifCond .ne 5, 3) := by decide +kernel
theorem dX3_least_17 : decode M_X3_least.2.1 17 = .ok (.iconst (-1), 1) := by decide +kernel
theorem dX3_least_18 : decode M_X3_least.2.1 18 = .ok (.ireturn, 1) := by decide +kernel
theorem dX3_least_19 : decode M_X3_least.2.1 19 = .ok (.aload_n 0, 1) := by decide +kernel
theorem dX3_least_20 : decode M_X3_least.2.1 20 = .ok (.getfield 10, 3) := by decide +kernel
theorem dX3_least_23 : decode M_X3_least.2.1 23 = .ok (.iload_n 1, 1) := by decide +kernel
theorem dX3_least_24 : decode M_X3_least.2.1 24 = .ok (.invokevirtual 148, 3) := by decide +kernel
theorem dX3_least_27 : decode M_X3_least.2.1 27 = .ok (.istore_n 3, 1) := by decide +kernel
theorem dX3_least_28 : decode M_X3_least.2.1 28 = .ok (.iconst 0, 1) := by decide +kernel
theorem dX3_least_29 : decode M_X3_least.2.1 29 = .ok (.istore 4, 2) := by decide +kernel
theorem dX3_least_31 : decode M_X3_least.2.1 31 = .ok (.iload 4, 2) := by decide +kernel
theorem dX3_least_33 : decode M_X3_least.2.1 33 = .ok (.bipush 60, 2) := by decide +kernel
theorem dX3_least_35 : decode M_X3_least.2.1 35 = .ok (.if_icmp .gt 39, 3) := by decide +kernel
theorem dX3_least_38 : decode M_X3_least.2.1 38 = .ok (.aload_n 0, 1) := by decide +kernel
theorem dX3_least_39 : decode M_X3_least.2.1 39 = .ok (.invokevirtual 56, 3) := by decide +kernel
theorem dX3_least_42 : decode M_X3_least.2.1 42 = .ok (.aload_n 0, 1) := by decide +kernel
theorem dX3_least_43 : decode M_X3_least.2.1 43 = .ok (.getfield 16, 3) := by decide +kernel
theorem dX3_least_46 : decode M_X3_least.2.1 46 = .ok (.getfield 142, 3) := by decide +kernel
theorem dX3_least_49 : decode M_X3_least.2.1 49 = .ok (.iload_n 1, 1) := by decide +kernel
theorem dX3_least_50 : decode M_X3_least.2.1 50 = .ok (.iload 4, 2) := by decide +kernel
theorem dX3_least_52 : decode M_X3_least.2.1 52 = .ok (.iastore, 1) := by decide +kernel
theorem dX3_least_53 : decode M_X3_least.2.1 53 = .ok (.aload_n 0, 1) := by decide +kernel
theorem dX3_least_54 : decode M_X3_least.2.1 54 = .ok (.getfield 16, 3) := by decide +kernel
theorem dX3_least_57 : decode M_X3_least.2.1 57 = .ok (.iload_n 3, 1) := by decide +kernel
theorem dX3_least_58 : decode M_X3_least.2.1 58 = .ok (.iload_n 2, 1) := by decide +kernel
theorem dX3_least_59 : decode M_X3_least.2.1 59 = .ok (.invokevirtual 199, 3) := by decide +kernel
theorem dX3_least_62 : decode M_X3_least.2.1 62 = .ok (.ifCond .eq 6, 3) := by decide +kernel
theorem dX3_least_65 : decode M_X3_least.2.1 65 = .ok (.iload 4, 2) := by decide +kernel
theorem dX3_least_67 : decode M_X3_least.2.1 67 = .ok (.ireturn, 1) := by decide +kernel
theorem dX3_least_68 : decode M_X3_least.2.1 68 = .ok (.iinc 4 1, 3) := by decide +kernel
theorem dX3_least_71 : decode M_X3_least.2.1 71 = .ok (.goto (-40), 3) := by decide +kernel
theorem dX3_least_74 : decode M_X3_least.2.1 74 = .ok (.bipush (-4), 2) := by decide +kernel
theorem dX3_least_76 : decode M_X3_least.2.1 76 = .ok (.ireturn, 1) := by decide +kernel
def c_X3_least_31 (a0 : Nat) (a1 : Int32) (a2 : Int32) (k31 : Int32 → Int32 → aW → Option (Int32 × aW)) (b3 : Int32) (b4 : Int32) (w : aW) : Option (Int32 × aW) :=
  if (60 : Int32) < b4 then
    some ((-4 : Int32), w)
  else
    cV 2 w a0 (bk (f_X3_think a0 w) fun _ w8 =>
    (gR 2 w8 a0 1).bind fun r9 =>
    (gR 0 w8 r9 9).bind fun r10 =>
    (sA w8 r10 a1 b4).bind fun w11 =>
    (gR 2 w11 a0 1).bind fun r12 =>
    cV 0 w11 r12 (bk (f_X0_keepsAlive r12 b3 a2 w11) fun x14 w13 =>
    if x14 = (0 : Int32) then
      k31 b3 (b4 + 1) w13
    else
      some (b4, w13)))
theorem t_X3_least_31 (a0 : Nat) (a1 : Int32) (a2 : Int32) (k31 : Int32 → Int32 → aW → Option (Int32 × aW)) (hk31 : ∀ (b3 : Int32) (b4 : Int32) (w : aW), Ev rvI M_X3_least 31 [some (.ref a0), some (.int a1), some (.int a2), some (.int b3), some (.int b4)] [] w (k31 b3 b4 w)) (b3 : Int32) (b4 : Int32) (w : aW) : Ev rvI M_X3_least 31 [some (.ref a0), some (.int a1), some (.int a2), some (.int b3), some (.int b4)] [] w (c_X3_least_31 a0 a1 a2 k31 b3 b4 w) := by
  unfold c_X3_least_31
  refine e_iload (pc := 31) dX3_least_31 rfl ?_
  refine e_bipush (pc := 33) dX3_least_33 kb_60 ?_
  refine e_icmp_gt (pc := 35) (tgt := 74) dX3_least_35 (by decide) (fun _ => ?_) (fun _ => ?_)
  · refine e_bipush (pc := 74) dX3_least_74 kb_m4 ?_
    exact e_iret (pc := 76) dX3_least_76 rfl rfl
  · refine e_aload_n (pc := 38) dX3_least_38 rfl rfl ?_
    refine e_callV (pc := 39) (av := []) (S := []) (c0 := 2) rfl rfl ok_X3_think ⟨Nat.le_of_ble_eq_true rfl, Nat.le_of_ble_eq_true rfl⟩ hv_X3_56 dX3_least_39 (s_X3_think a0 w) rfl rfl (Nat.le_of_ble_eq_true rfl) (fun _ w8 => ?_)
    refine e_aload_n (pc := 42) dX3_least_42 rfl rfl ?_
    refine e_getR (pc := 43) dX3_least_43 hs_X3_16 (fun r9 => ?_)
    refine e_getR (pc := 46) dX3_least_46 hs_X3_142 (fun r10 => ?_)
    refine e_iload_n (pc := 49) dX3_least_49 rfl rfl ?_
    refine e_iload (pc := 50) dX3_least_50 rfl ?_
    refine e_iast (pc := 52) dX3_least_52 (fun w11 => ?_)
    refine e_aload_n (pc := 53) dX3_least_53 rfl rfl ?_
    refine e_getR (pc := 54) dX3_least_54 hs_X3_16 (fun r12 => ?_)
    refine e_iload_n (pc := 57) dX3_least_57 rfl rfl ?_
    refine e_iload_n (pc := 58) dX3_least_58 rfl rfl ?_
    refine e_callV (pc := 59) (av := [.int b3, .int a2]) (S := []) (c0 := 0) rfl rfl ok_X0_keepsAlive ⟨Nat.le_of_ble_eq_true rfl, Nat.le_of_ble_eq_true rfl⟩ hv_X3_199 dX3_least_59 (s_X0_keepsAlive r12 b3 a2 w11) rfl rfl (Nat.le_of_ble_eq_true rfl) (fun x14 w13 => ?_)
    refine e_if_eq (pc := 62) (tgt := 68) dX3_least_62 (by decide) (fun _ => ?_) (fun _ => ?_)
    · refine e_iinc (L' := [some (.ref a0), some (.int a1), some (.int a2), some (.int b3), some (.int (b4 + 1))]) (pc := 68) (v := 1) dX3_least_68 (by decide) rfl kc_1 rfl ?_
      refine e_goto (pc := 71) (tgt := 31) dX3_least_71 (by decide) ?_
      exact hk31 b3 (b4 + 1) w13
    · refine e_iload (pc := 65) dX3_least_65 rfl ?_
      exact e_iret (pc := 67) dX3_least_67 rfl rfl
def f_X3_least (a0 : Nat) (a1 : Int32) (a2 : Int32) (w : aW) : Option (Int32 × aW) :=
  bk (f_X3_isPerson a1 w) fun x2 w1 =>
  if x2 = (0 : Int32) then
    some ((-1 : Int32), w1)
  else
    bk (f_X3_within a2 (0 : Int32) (20 : Int32) w1) fun x4 w3 =>
    if ¬ x4 = (0 : Int32) then
      (gR 2 w3 a0 0).bind fun r5 =>
      cV 0 w3 r5 (bk (f_X0_calledBy r5 a1 w3) fun x7 w6 =>
      loop3 (c_X3_least_31 a0 a1 a2) a_fuel x7 (0 : Int32) w6)
    else
      some ((-1 : Int32), w3)
theorem s_X3_least (a0 : Nat) (a1 : Int32) (a2 : Int32) (w : aW) : Sp rvI M_X3_least [.ref a0, .int a1, .int a2] w (f_X3_least a0 a1 a2 w) := by
  refine e_entry [some (.ref a0), some (.int a1), some (.int a2), none, none] (by decide +kernel) (Nat.le_of_ble_eq_true rfl) (fun _ => rfl) ?_
  unfold f_X3_least
  refine e_iload_n (pc := 0) dX3_least_0 rfl rfl ?_
  refine e_callS (pc := 1) (av := [.int a1]) (S := []) ok_X3_isPerson ⟨Nat.le_of_ble_eq_true rfl, Nat.le_of_ble_eq_true rfl⟩ ht_X3_94 dX3_least_1 (s_X3_isPerson a1 w) rfl rfl (Nat.le_of_ble_eq_true rfl) (fun x2 w1 => ?_)
  refine e_if_eq (pc := 4) (tgt := 17) dX3_least_4 (by decide) (fun _ => ?_) (fun _ => ?_)
  · refine e_iconst (pc := 17) dX3_least_17 kc_m1 ?_
    exact e_iret (pc := 18) dX3_least_18 rfl rfl
  · refine e_iload_n (pc := 7) dX3_least_7 rfl rfl ?_
    refine e_iconst (pc := 8) dX3_least_8 kc_0 ?_
    refine e_bipush (pc := 9) dX3_least_9 kb_20 ?_
    refine e_callS (pc := 11) (av := [.int a2, .int (0 : Int32), .int (20 : Int32)]) (S := []) ok_X3_within ⟨Nat.le_of_ble_eq_true rfl, Nat.le_of_ble_eq_true rfl⟩ ht_X3_87 dX3_least_11 (s_X3_within a2 (0 : Int32) (20 : Int32) w1) rfl rfl (Nat.le_of_ble_eq_true rfl) (fun x4 w3 => ?_)
    refine e_if_ne (pc := 14) (tgt := 19) dX3_least_14 (by decide) (fun _ => ?_) (fun _ => ?_)
    · refine e_aload_n (pc := 19) dX3_least_19 rfl rfl ?_
      refine e_getR (pc := 20) dX3_least_20 hs_X3_10 (fun r5 => ?_)
      refine e_iload_n (pc := 23) dX3_least_23 rfl rfl ?_
      refine e_callV (pc := 24) (av := [.int a1]) (S := []) (c0 := 0) rfl rfl ok_X0_calledBy ⟨Nat.le_of_ble_eq_true rfl, Nat.le_of_ble_eq_true rfl⟩ hv_X3_148 dX3_least_24 (s_X0_calledBy r5 a1 w3) rfl rfl (Nat.le_of_ble_eq_true rfl) (fun x7 w6 => ?_)
      refine e_istore_n (L' := [some (.ref a0), some (.int a1), some (.int a2), some (.int x7), none]) (pc := 27) dX3_least_27 rfl (by decide) rfl ?_
      refine e_iconst (pc := 28) dX3_least_28 kc_0 ?_
      refine e_istore (L' := [some (.ref a0), some (.int a1), some (.int a2), some (.int x7), some (.int (0 : Int32))]) (pc := 29) dX3_least_29 (by decide) rfl ?_
      exact e_loop3 (L := fun b3 b4 => [some (.ref a0), some (.int a1), some (.int a2), some (.int b3), some (.int b4)]) (S := fun b3 b4 => []) (fun kf hkf => t_X3_least_31 a0 a1 a2  kf hkf) _ x7 (0 : Int32) w6
    · refine e_iconst (pc := 17) dX3_least_17 kc_m1 ?_
      exact e_iret (pc := 18) dX3_least_18 rfl rfl
def M_X3_aliveBehind : aM := (yX3_aliveBehind, cX3_aliveBehind, 2, (some .int), 5, 113)
theorem ok_X3_aliveBehind : a_okM M_X3_aliveBehind 1 := ⟨⟨by decide +kernel, by decide +kernel⟩, by decide +kernel, a_in 552 (by decide +kernel) rfl, a_in 76 (by decide +kernel) rfl⟩
theorem dX3_aliveBehind_0 : decode M_X3_aliveBehind.2.1 0 = .ok (.aload_n 0, 1) := by decide +kernel
theorem dX3_aliveBehind_1 : decode M_X3_aliveBehind.2.1 1 = .ok (.getfield 16, 3) := by decide +kernel
theorem dX3_aliveBehind_4 : decode M_X3_aliveBehind.2.1 4 = .ok (.iload_n 1, 1) := by decide +kernel
theorem dX3_aliveBehind_5 : decode M_X3_aliveBehind.2.1 5 = .ok (.invokevirtual 138, 3) := by decide +kernel
theorem dX3_aliveBehind_8 : decode M_X3_aliveBehind.2.1 8 = .ok (.aload_n 0, 1) := by decide +kernel
theorem dX3_aliveBehind_9 : decode M_X3_aliveBehind.2.1 9 = .ok (.getfield 16, 3) := by decide +kernel
theorem dX3_aliveBehind_12 : decode M_X3_aliveBehind.2.1 12 = .ok (.getfield 172, 3) := by decide +kernel
theorem dX3_aliveBehind_15 : decode M_X3_aliveBehind.2.1 15 = .ok (.invokestatic 185, 3) := by decide +kernel
theorem dX3_aliveBehind_18 : decode M_X3_aliveBehind.2.1 18 = .ok (.ireturn, 1) := by decide +kernel
def f_X3_aliveBehind (a0 : Nat) (a1 : Int32) (w : aW) : Option (Int32 × aW) :=
  (gR 2 w a0 1).bind fun r1 =>
  cV 0 w r1 (bk (f_X0_passDays r1 a1 w) fun _ w2 =>
  (gR 2 w2 a0 1).bind fun r3 =>
  (gI 0 w2 r3 2).bind fun x4 =>
  bk (f_J6_bitCount_0f7a4 x4 w2) fun x6 w5 =>
  some (x6, w5))
theorem s_X3_aliveBehind (a0 : Nat) (a1 : Int32) (w : aW) : Sp rvI M_X3_aliveBehind [.ref a0, .int a1] w (f_X3_aliveBehind a0 a1 w) := by
  refine e_entry [some (.ref a0), some (.int a1)] (by decide +kernel) (Nat.le_of_ble_eq_true rfl) (fun _ => rfl) ?_
  unfold f_X3_aliveBehind
  refine e_aload_n (pc := 0) dX3_aliveBehind_0 rfl rfl ?_
  refine e_getR (pc := 1) dX3_aliveBehind_1 hs_X3_16 (fun r1 => ?_)
  refine e_iload_n (pc := 4) dX3_aliveBehind_4 rfl rfl ?_
  refine e_callV (pc := 5) (av := [.int a1]) (S := []) (c0 := 0) rfl rfl ok_X0_passDays ⟨Nat.le_of_ble_eq_true rfl, Nat.le_of_ble_eq_true rfl⟩ hv_X3_138 dX3_aliveBehind_5 (s_X0_passDays r1 a1 w) rfl rfl (Nat.le_of_ble_eq_true rfl) (fun _ w2 => ?_)
  refine e_aload_n (pc := 8) dX3_aliveBehind_8 rfl rfl ?_
  refine e_getR (pc := 9) dX3_aliveBehind_9 hs_X3_16 (fun r3 => ?_)
  refine e_getI (pc := 12) dX3_aliveBehind_12 hs_X3_172 (fun x4 => ?_)
  refine e_callS (pc := 15) (av := [.int x4]) (S := []) ok_J6_bitCount_0f7a4 ⟨Nat.le_of_ble_eq_true rfl, Nat.le_of_ble_eq_true rfl⟩ ht_X3_185 dX3_aliveBehind_15 (s_J6_bitCount_0f7a4 x4 w2) rfl rfl (Nat.le_of_ble_eq_true rfl) (fun x6 w5 => ?_)
  exact e_iret (pc := 18) dX3_aliveBehind_18 rfl rfl
def M_X3_exchange : aM := (yX3_exchange, cX3_exchange, 7, (some .int), 6, 134)
theorem ok_X3_exchange : a_okM M_X3_exchange 1 := ⟨⟨by decide +kernel, by decide +kernel⟩, by decide +kernel, a_in 548 (by decide +kernel) rfl, a_in 76 (by decide +kernel) rfl⟩
theorem dX3_exchange_0 : decode M_X3_exchange.2.1 0 = .ok (.iload_n 1, 1) := by decide +kernel
theorem dX3_exchange_1 : decode M_X3_exchange.2.1 1 = .ok (.iconst 0, 1) := by decide +kernel
theorem dX3_exchange_2 : decode M_X3_exchange.2.1 2 = .ok (.bipush 20, 2) := by decide +kernel
theorem dX3_exchange_4 : decode M_X3_exchange.2.1 4 = .ok (.invokestatic 87, 3) := by decide +kernel
theorem dX3_exchange_7 : decode M_X3_exchange.2.1 7 = .ok (.ifCond .ne 5, 3) := by decide +kernel
theorem dX3_exchange_10 : decode M_X3_exchange.2.1 10 = .ok (.iconst (-1), 1) := by decide +kernel
theorem dX3_exchange_11 : decode M_X3_exchange.2.1 11 = .ok (.ireturn, 1) := by decide +kernel
theorem dX3_exchange_12 : decode M_X3_exchange.2.1 12 = .ok (.aload_n 0, 1) := by decide +kernel
theorem dX3_exchange_13 : decode M_X3_exchange.2.1 13 = .ok (.invokevirtual 56, 3) := by decide +kernel
theorem dX3_exchange_16 : decode M_X3_exchange.2.1 16 = .ok (.aload_n 0, 1) := by decide +kernel
theorem dX3_exchange_17 : decode M_X3_exchange.2.1 17 = .ok (.iload_n 1, 1) := by decide +kernel
theorem dX3_exchange_18 : decode M_X3_exchange.2.1 18 = .ok (.invokevirtual 202, 3) := by decide +kernel
theorem dX3_exchange_21 : decode M_X3_exchange.2.1 21 = .ok (.istore_n 2, 1) := by decide +kernel
theorem dX3_exchange_22 : decode M_X3_exchange.2.1 22 = .ok (.bipush (-4), 2) := by decide +kernel
theorem dX3_exchange_24 : decode M_X3_exchange.2.1 24 = .ok (.istore_n 3, 1) := by decide +kernel
theorem dX3_exchange_25 : decode M_X3_exchange.2.1 25 = .ok (.iconst 0, 1) := by decide +kernel
theorem dX3_exchange_26 : decode M_X3_exchange.2.1 26 = .ok (.istore 4, 2) := by decide +kernel
theorem dX3_exchange_28 : decode M_X3_exchange.2.1 28 = .ok (.iload 4, 2) := by decide +kernel
theorem dX3_exchange_30 : decode M_X3_exchange.2.1 30 = .ok (.iconst 5, 1) := by decide +kernel
theorem dX3_exchange_31 : decode M_X3_exchange.2.1 31 = .ok (.if_icmp .ge 96, 3) := by decide +kernel
theorem dX3_exchange_34 : decode M_X3_exchange.2.1 34 = .ok (.iload 4, 2) := by decide +kernel
theorem dX3_exchange_36 : decode M_X3_exchange.2.1 36 = .ok (.iconst 1, 1) := by decide +kernel
theorem dX3_exchange_37 : decode M_X3_exchange.2.1 37 = .ok (.iadd, 1) := by decide +kernel
theorem dX3_exchange_38 : decode M_X3_exchange.2.1 38 = .ok (.istore 5, 2) := by decide +kernel
theorem dX3_exchange_40 : decode M_X3_exchange.2.1 40 = .ok (.iload 5, 2) := by decide +kernel
theorem dX3_exchange_42 : decode M_X3_exchange.2.1 42 = .ok (.iconst 5, 1) := by decide +kernel
theorem dX3_exchange_43 : decode M_X3_exchange.2.1 43 = .ok (.if_icmp .ge 78, 3) := by decide +kernel
theorem dX3_exchange_46 : decode M_X3_exchange.2.1 46 = .ok (.aload_n 0, 1) := by decide +kernel
theorem dX3_exchange_47 : decode M_X3_exchange.2.1 47 = .ok (.invokevirtual 56, 3) := by decide +kernel
theorem dX3_exchange_50 : decode M_X3_exchange.2.1 50 = .ok (.aload_n 0, 1) := by decide +kernel
theorem dX3_exchange_51 : decode M_X3_exchange.2.1 51 = .ok (.getfield 16, 3) := by decide +kernel
theorem dX3_exchange_54 : decode M_X3_exchange.2.1 54 = .ok (.getfield 205, 3) := by decide +kernel
theorem dX3_exchange_57 : decode M_X3_exchange.2.1 57 = .ok (.iload 4, 2) := by decide +kernel
theorem dX3_exchange_59 : decode M_X3_exchange.2.1 59 = .ok (.aload_n 0, 1) := by decide +kernel
theorem dX3_exchange_60 : decode M_X3_exchange.2.1 60 = .ok (.getfield 10, 3) := by decide +kernel
theorem dX3_exchange_63 : decode M_X3_exchange.2.1 63 = .ok (.getfield 205, 3) := by decide +kernel
theorem dX3_exchange_66 : decode M_X3_exchange.2.1 66 = .ok (.iload 5, 2) := by decide +kernel
theorem dX3_exchange_68 : decode M_X3_exchange.2.1 68 = .ok (.iaload, 1) := by decide +kernel
theorem dX3_exchange_69 : decode M_X3_exchange.2.1 69 = .ok (.iastore, 1) := by decide +kernel
theorem dX3_exchange_70 : decode M_X3_exchange.2.1 70 = .ok (.aload_n 0, 1) := by decide +kernel
theorem dX3_exchange_71 : decode M_X3_exchange.2.1 71 = .ok (.getfield 16, 3) := by decide +kernel
theorem dX3_exchange_74 : decode M_X3_exchange.2.1 74 = .ok (.getfield 205, 3) := by decide +kernel
theorem dX3_exchange_77 : decode M_X3_exchange.2.1 77 = .ok (.iload 5, 2) := by decide +kernel
theorem dX3_exchange_79 : decode M_X3_exchange.2.1 79 = .ok (.aload_n 0, 1) := by decide +kernel
theorem dX3_exchange_80 : decode M_X3_exchange.2.1 80 = .ok (.getfield 10, 3) := by decide +kernel
theorem dX3_exchange_83 : decode M_X3_exchange.2.1 83 = .ok (.getfield 205, 3) := by decide +kernel
theorem dX3_exchange_86 : decode M_X3_exchange.2.1 86 = .ok (.iload 4, 2) := by decide +kernel
theorem dX3_exchange_88 : decode M_X3_exchange.2.1 88 = .ok (.iaload, 1) := by decide +kernel
theorem dX3_exchange_89 : decode M_X3_exchange.2.1 89 = .ok (.iastore, 1) := by decide +kernel
theorem dX3_exchange_90 : decode M_X3_exchange.2.1 90 = .ok (.aload_n 0, 1) := by decide +kernel
theorem dX3_exchange_91 : decode M_X3_exchange.2.1 91 = .ok (.iload_n 1, 1) := by decide +kernel
theorem dX3_exchange_92 : decode M_X3_exchange.2.1 92 = .ok (.invokevirtual 202, 3) := by decide +kernel
theorem dX3_exchange_95 : decode M_X3_exchange.2.1 95 = .ok (.istore 6, 2) := by decide +kernel
theorem dX3_exchange_97 : decode M_X3_exchange.2.1 97 = .ok (.iload 6, 2) := by decide +kernel
theorem dX3_exchange_99 : decode M_X3_exchange.2.1 99 = .ok (.iload_n 2, 1) := by decide +kernel
theorem dX3_exchange_100 : decode M_X3_exchange.2.1 100 = .ok (.if_icmp .le 15, 3) := by decide +kernel
theorem dX3_exchange_103 : decode M_X3_exchange.2.1 103 = .ok (.iload 6, 2) := by decide +kernel
theorem dX3_exchange_105 : decode M_X3_exchange.2.1 105 = .ok (.istore_n 2, 1) := by decide +kernel
theorem dX3_exchange_106 : decode M_X3_exchange.2.1 106 = .ok (.bipush 10, 2) := by decide +kernel
theorem dX3_exchange_108 : decode M_X3_exchange.2.1 108 = .ok (.iload 4, 2) := by decide +kernel
theorem dX3_exchange_110 : decode M_X3_exchange.2.1 110 = .ok (.imul, 1) := by decide +kernel
theorem dX3_exchange_111 : decode M_X3_exchange.2.1 111 = .ok (.iload 5, 2) := by decide +kernel
theorem dX3_exchange_113 : decode M_X3_exchange.2.1 113 = .ok (.iadd, 1) := by decide +kernel
theorem dX3_exchange_114 : decode M_X3_exchange.2.1 114 = .ok (.istore_n 3, 1) := by decide +kernel
theorem dX3_exchange_115 : decode M_X3_exchange.2.1 115 = .ok (.iinc 5 1, 3) := by decide +kernel
theorem dX3_exchange_118 : decode M_X3_exchange.2.1 118 = .ok (.goto (-78), 3) := by decide +kernel
theorem dX3_exchange_121 : decode M_X3_exchange.2.1 121 = .ok (.iinc 4 1, 3) := by decide +kernel
theorem dX3_exchange_124 : decode M_X3_exchange.2.1 124 = .ok (.goto (-96), 3) := by decide +kernel
theorem dX3_exchange_127 : decode M_X3_exchange.2.1 127 = .ok (.iload_n 3, 1) := by decide +kernel
theorem dX3_exchange_128 : decode M_X3_exchange.2.1 128 = .ok (.ireturn, 1) := by decide +kernel
theorem hv_X3_202 : a_okV RX3 M_X3_aliveBehind 202 := ⟨a_in 549 (by decide +kernel) rfl, a_in 551 (by decide +kernel) rfl, a_in 14 (by decide +kernel) rfl⟩
theorem hs_X3_205 : a_fs RX3 205 0 11 := ⟨RX0, TX0, 13, rfl, tin_X0, by decide, a_in 127 (by decide +kernel) rfl⟩
def c_X3_exchange_40 (a0 : Nat) (a1 : Int32) (k28 : Int32 → Int32 → Int32 → aW → Option (Int32 × aW)) (k40 : Int32 → Int32 → Int32 → Int32 → aW → Option (Int32 × aW)) (b2 : Int32) (b3 : Int32) (b4 : Int32) (b5 : Int32) (w : aW) : Option (Int32 × aW) :=
  if (5 : Int32) ≤ b5 then
    k28 b2 b3 (b4 + 1) w
  else
    cV 2 w a0 (bk (f_X3_think a0 w) fun _ w6 =>
    (gR 2 w6 a0 1).bind fun r7 =>
    (gR 0 w6 r7 11).bind fun r8 =>
    (gR 2 w6 a0 0).bind fun r9 =>
    (gR 0 w6 r9 11).bind fun r10 =>
    (gA w6 r10 b5).bind fun x11 =>
    (sA w6 r8 b4 x11).bind fun w12 =>
    (gR 2 w12 a0 1).bind fun r13 =>
    (gR 0 w12 r13 11).bind fun r14 =>
    (gR 2 w12 a0 0).bind fun r15 =>
    (gR 0 w12 r15 11).bind fun r16 =>
    (gA w12 r16 b4).bind fun x17 =>
    (sA w12 r14 b5 x17).bind fun w18 =>
    cV 2 w18 a0 (bk (f_X3_aliveBehind a0 a1 w18) fun x20 w19 =>
    if x20 ≤ b2 then
      k40 b2 b3 b4 (b5 + 1) w19
    else
      k40 x20 (((10 : Int32) * b4) + b5) b4 (b5 + 1) w19))
theorem t_X3_exchange_40 (a0 : Nat) (a1 : Int32) (k28 : Int32 → Int32 → Int32 → aW → Option (Int32 × aW)) (hk28 : ∀ (b2 : Int32) (b3 : Int32) (b4 : Int32) (w : aW), Ev rvI M_X3_exchange 28 [some (.ref a0), some (.int a1), some (.int b2), some (.int b3), some (.int b4), none, none] [] w (k28 b2 b3 b4 w)) (k40 : Int32 → Int32 → Int32 → Int32 → aW → Option (Int32 × aW)) (hk40 : ∀ (b2 : Int32) (b3 : Int32) (b4 : Int32) (b5 : Int32) (w : aW), Ev rvI M_X3_exchange 40 [some (.ref a0), some (.int a1), some (.int b2), some (.int b3), some (.int b4), some (.int b5), none] [] w (k40 b2 b3 b4 b5 w)) (b2 : Int32) (b3 : Int32) (b4 : Int32) (b5 : Int32) (w : aW) : Ev rvI M_X3_exchange 40 [some (.ref a0), some (.int a1), some (.int b2), some (.int b3), some (.int b4), some (.int b5), none] [] w (c_X3_exchange_40 a0 a1 k28 k40 b2 b3 b4 b5 w) := by
  unfold c_X3_exchange_40
  refine e_iload (pc := 40) dX3_exchange_40 rfl ?_
  refine e_iconst (pc := 42) dX3_exchange_42 kc_5 ?_
  refine e_icmp_ge (pc := 43) (tgt := 121) dX3_exchange_43 (by decide) (fun _ => ?_) (fun _ => ?_)
  · refine e_iinc (L' := [some (.ref a0), some (.int a1), some (.int b2), some (.int b3), some (.int (b4 + 1)), some (.int b5), none]) (pc := 121) (v := 1) dX3_exchange_121 (by decide) rfl kc_1 rfl ?_
    refine e_goto (pc := 124) (tgt := 28) dX3_exchange_124 (by decide) ?_
    refine e_forget (L2 := [some (.ref a0), some (.int a1), some (.int b2), some (.int b3), some (.int (b4 + 1)), none, none]) (And.intro rfl (And.intro rfl (And.intro rfl (And.intro rfl (And.intro rfl trivial))))) ?_
    exact hk28 b2 b3 (b4 + 1) w
  · refine e_aload_n (pc := 46) dX3_exchange_46 rfl rfl ?_
    refine e_callV (pc := 47) (av := []) (S := []) (c0 := 2) rfl rfl ok_X3_think ⟨Nat.le_of_ble_eq_true rfl, Nat.le_of_ble_eq_true rfl⟩ hv_X3_56 dX3_exchange_47 (s_X3_think a0 w) rfl rfl (Nat.le_of_ble_eq_true rfl) (fun _ w6 => ?_)
    refine e_aload_n (pc := 50) dX3_exchange_50 rfl rfl ?_
    refine e_getR (pc := 51) dX3_exchange_51 hs_X3_16 (fun r7 => ?_)
    refine e_getR (pc := 54) dX3_exchange_54 hs_X3_205 (fun r8 => ?_)
    refine e_iload (pc := 57) dX3_exchange_57 rfl ?_
    refine e_aload_n (pc := 59) dX3_exchange_59 rfl rfl ?_
    refine e_getR (pc := 60) dX3_exchange_60 hs_X3_10 (fun r9 => ?_)
    refine e_getR (pc := 63) dX3_exchange_63 hs_X3_205 (fun r10 => ?_)
    refine e_iload (pc := 66) dX3_exchange_66 rfl ?_
    refine e_iald (pc := 68) dX3_exchange_68 (fun x11 => ?_)
    refine e_iast (pc := 69) dX3_exchange_69 (fun w12 => ?_)
    refine e_aload_n (pc := 70) dX3_exchange_70 rfl rfl ?_
    refine e_getR (pc := 71) dX3_exchange_71 hs_X3_16 (fun r13 => ?_)
    refine e_getR (pc := 74) dX3_exchange_74 hs_X3_205 (fun r14 => ?_)
    refine e_iload (pc := 77) dX3_exchange_77 rfl ?_
    refine e_aload_n (pc := 79) dX3_exchange_79 rfl rfl ?_
    refine e_getR (pc := 80) dX3_exchange_80 hs_X3_10 (fun r15 => ?_)
    refine e_getR (pc := 83) dX3_exchange_83 hs_X3_205 (fun r16 => ?_)
    refine e_iload (pc := 86) dX3_exchange_86 rfl ?_
    refine e_iald (pc := 88) dX3_exchange_88 (fun x17 => ?_)
    refine e_iast (pc := 89) dX3_exchange_89 (fun w18 => ?_)
    refine e_aload_n (pc := 90) dX3_exchange_90 rfl rfl ?_
    refine e_iload_n (pc := 91) dX3_exchange_91 rfl rfl ?_
    refine e_callV (pc := 92) (av := [.int a1]) (S := []) (c0 := 2) rfl rfl ok_X3_aliveBehind ⟨Nat.le_of_ble_eq_true rfl, Nat.le_of_ble_eq_true rfl⟩ hv_X3_202 dX3_exchange_92 (s_X3_aliveBehind a0 a1 w18) rfl rfl (Nat.le_of_ble_eq_true rfl) (fun x20 w19 => ?_)
    refine e_istore (L' := [some (.ref a0), some (.int a1), some (.int b2), some (.int b3), some (.int b4), some (.int b5), some (.int x20)]) (pc := 95) dX3_exchange_95 (by decide) rfl ?_
    refine e_iload (pc := 97) dX3_exchange_97 rfl ?_
    refine e_iload_n (pc := 99) dX3_exchange_99 rfl rfl ?_
    refine e_icmp_le (pc := 100) (tgt := 115) dX3_exchange_100 (by decide) (fun _ => ?_) (fun _ => ?_)
    · refine e_iinc (L' := [some (.ref a0), some (.int a1), some (.int b2), some (.int b3), some (.int b4), some (.int (b5 + 1)), some (.int x20)]) (pc := 115) (v := 1) dX3_exchange_115 (by decide) rfl kc_1 rfl ?_
      refine e_goto (pc := 118) (tgt := 40) dX3_exchange_118 (by decide) ?_
      refine e_forget (L2 := [some (.ref a0), some (.int a1), some (.int b2), some (.int b3), some (.int b4), some (.int (b5 + 1)), none]) (And.intro rfl (And.intro rfl (And.intro rfl (And.intro rfl (And.intro rfl (And.intro rfl trivial)))))) ?_
      exact hk40 b2 b3 b4 (b5 + 1) w19
    · refine e_iload (pc := 103) dX3_exchange_103 rfl ?_
      refine e_istore_n (L' := [some (.ref a0), some (.int a1), some (.int x20), some (.int b3), some (.int b4), some (.int b5), some (.int x20)]) (pc := 105) dX3_exchange_105 rfl (by decide) rfl ?_
      refine e_bipush (pc := 106) dX3_exchange_106 kb_10 ?_
      refine e_iload (pc := 108) dX3_exchange_108 rfl ?_
      refine e_imul (pc := 110) dX3_exchange_110 ?_
      refine e_iload (pc := 111) dX3_exchange_111 rfl ?_
      refine e_iadd (pc := 113) dX3_exchange_113 ?_
      refine e_istore_n (L' := [some (.ref a0), some (.int a1), some (.int x20), some (.int (((10 : Int32) * b4) + b5)), some (.int b4), some (.int b5), some (.int x20)]) (pc := 114) dX3_exchange_114 rfl (by decide) rfl ?_
      refine e_iinc (L' := [some (.ref a0), some (.int a1), some (.int x20), some (.int (((10 : Int32) * b4) + b5)), some (.int b4), some (.int (b5 + 1)), some (.int x20)]) (pc := 115) (v := 1) dX3_exchange_115 (by decide) rfl kc_1 rfl ?_
      refine e_goto (pc := 118) (tgt := 40) dX3_exchange_118 (by decide) ?_
      refine e_forget (L2 := [some (.ref a0), some (.int a1), some (.int x20), some (.int (((10 : Int32) * b4) + b5)), some (.int b4), some (.int (b5 + 1)), none]) (And.intro rfl (And.intro rfl (And.intro rfl (And.intro rfl (And.intro rfl (And.intro rfl trivial)))))) ?_
      exact hk40 x20 (((10 : Int32) * b4) + b5) b4 (b5 + 1) w19
def c_X3_exchange_28 (a0 : Nat) (a1 : Int32) (k28 : Int32 → Int32 → Int32 → aW → Option (Int32 × aW)) (b2 : Int32) (b3 : Int32) (b4 : Int32) (w : aW) : Option (Int32 × aW) :=
  if (5 : Int32) ≤ b4 then
    some (b3, w)
  else
    loop5 (c_X3_exchange_40 a0 a1 k28) a_fuel b2 b3 b4 (b4 + (1 : Int32)) w
theorem t_X3_exchange_28 (a0 : Nat) (a1 : Int32) (k28 : Int32 → Int32 → Int32 → aW → Option (Int32 × aW)) (hk28 : ∀ (b2 : Int32) (b3 : Int32) (b4 : Int32) (w : aW), Ev rvI M_X3_exchange 28 [some (.ref a0), some (.int a1), some (.int b2), some (.int b3), some (.int b4), none, none] [] w (k28 b2 b3 b4 w)) (b2 : Int32) (b3 : Int32) (b4 : Int32) (w : aW) : Ev rvI M_X3_exchange 28 [some (.ref a0), some (.int a1), some (.int b2), some (.int b3), some (.int b4), none, none] [] w (c_X3_exchange_28 a0 a1 k28 b2 b3 b4 w) := by
  unfold c_X3_exchange_28
  refine e_iload (pc := 28) dX3_exchange_28 rfl ?_
  refine e_iconst (pc := 30) dX3_exchange_30 kc_5 ?_
  refine e_icmp_ge (pc := 31) (tgt := 127) dX3_exchange_31 (by decide) (fun _ => ?_) (fun _ => ?_)
  · refine e_iload_n (pc := 127) dX3_exchange_127 rfl rfl ?_
    exact e_iret (pc := 128) dX3_exchange_128 rfl rfl
  · refine e_iload (pc := 34) dX3_exchange_34 rfl ?_
    refine e_iconst (pc := 36) dX3_exchange_36 kc_1 ?_
    refine e_iadd (pc := 37) dX3_exchange_37 ?_
    refine e_istore (L' := [some (.ref a0), some (.int a1), some (.int b2), some (.int b3), some (.int b4), some (.int (b4 + (1 : Int32))), none]) (pc := 38) dX3_exchange_38 (by decide) rfl ?_
    exact e_loop5 (L := fun b2 b3 b4 b5 => [some (.ref a0), some (.int a1), some (.int b2), some (.int b3), some (.int b4), some (.int b5), none]) (S := fun b2 b3 b4 b5 => []) (fun kf hkf => t_X3_exchange_40 a0 a1 k28 hk28 kf hkf) _ b2 b3 b4 (b4 + (1 : Int32)) w
def f_X3_exchange (a0 : Nat) (a1 : Int32) (w : aW) : Option (Int32 × aW) :=
  bk (f_X3_within a1 (0 : Int32) (20 : Int32) w) fun x2 w1 =>
  if ¬ x2 = (0 : Int32) then
    cV 2 w1 a0 (bk (f_X3_think a0 w1) fun _ w3 =>
    cV 2 w3 a0 (bk (f_X3_aliveBehind a0 a1 w3) fun x5 w4 =>
    loop4 (c_X3_exchange_28 a0 a1) a_fuel x5 (-4 : Int32) (0 : Int32) w4))
  else
    some ((-1 : Int32), w1)
theorem s_X3_exchange (a0 : Nat) (a1 : Int32) (w : aW) : Sp rvI M_X3_exchange [.ref a0, .int a1] w (f_X3_exchange a0 a1 w) := by
  refine e_entry [some (.ref a0), some (.int a1), none, none, none, none, none] (by decide +kernel) (Nat.le_of_ble_eq_true rfl) (fun _ => rfl) ?_
  unfold f_X3_exchange
  refine e_iload_n (pc := 0) dX3_exchange_0 rfl rfl ?_
  refine e_iconst (pc := 1) dX3_exchange_1 kc_0 ?_
  refine e_bipush (pc := 2) dX3_exchange_2 kb_20 ?_
  refine e_callS (pc := 4) (av := [.int a1, .int (0 : Int32), .int (20 : Int32)]) (S := []) ok_X3_within ⟨Nat.le_of_ble_eq_true rfl, Nat.le_of_ble_eq_true rfl⟩ ht_X3_87 dX3_exchange_4 (s_X3_within a1 (0 : Int32) (20 : Int32) w) rfl rfl (Nat.le_of_ble_eq_true rfl) (fun x2 w1 => ?_)
  refine e_if_ne (pc := 7) (tgt := 12) dX3_exchange_7 (by decide) (fun _ => ?_) (fun _ => ?_)
  · refine e_aload_n (pc := 12) dX3_exchange_12 rfl rfl ?_
    refine e_callV (pc := 13) (av := []) (S := []) (c0 := 2) rfl rfl ok_X3_think ⟨Nat.le_of_ble_eq_true rfl, Nat.le_of_ble_eq_true rfl⟩ hv_X3_56 dX3_exchange_13 (s_X3_think a0 w1) rfl rfl (Nat.le_of_ble_eq_true rfl) (fun _ w3 => ?_)
    refine e_aload_n (pc := 16) dX3_exchange_16 rfl rfl ?_
    refine e_iload_n (pc := 17) dX3_exchange_17 rfl rfl ?_
    refine e_callV (pc := 18) (av := [.int a1]) (S := []) (c0 := 2) rfl rfl ok_X3_aliveBehind ⟨Nat.le_of_ble_eq_true rfl, Nat.le_of_ble_eq_true rfl⟩ hv_X3_202 dX3_exchange_18 (s_X3_aliveBehind a0 a1 w3) rfl rfl (Nat.le_of_ble_eq_true rfl) (fun x5 w4 => ?_)
    refine e_istore_n (L' := [some (.ref a0), some (.int a1), some (.int x5), none, none, none, none]) (pc := 21) dX3_exchange_21 rfl (by decide) rfl ?_
    refine e_bipush (pc := 22) dX3_exchange_22 kb_m4 ?_
    refine e_istore_n (L' := [some (.ref a0), some (.int a1), some (.int x5), some (.int (-4 : Int32)), none, none, none]) (pc := 24) dX3_exchange_24 rfl (by decide) rfl ?_
    refine e_iconst (pc := 25) dX3_exchange_25 kc_0 ?_
    refine e_istore (L' := [some (.ref a0), some (.int a1), some (.int x5), some (.int (-4 : Int32)), some (.int (0 : Int32)), none, none]) (pc := 26) dX3_exchange_26 (by decide) rfl ?_
    exact e_loop4 (L := fun b2 b3 b4 => [some (.ref a0), some (.int a1), some (.int b2), some (.int b3), some (.int b4), none, none]) (S := fun b2 b3 b4 => []) (fun kf hkf => t_X3_exchange_28 a0 a1  kf hkf) _ x5 (-4 : Int32) (0 : Int32) w4
  · refine e_iconst (pc := 10) dX3_exchange_10 kc_m1 ?_
    exact e_iret (pc := 11) dX3_exchange_11 rfl rfl
def M_X3_teach : aM := (yX3_teach, cX3_teach, 8, (some .int), 6, 135)
theorem ok_X3_teach : a_okM M_X3_teach 3 := ⟨⟨by decide +kernel, by decide +kernel⟩, by decide +kernel, a_in 556 (by decide +kernel) rfl, a_in 76 (by decide +kernel) rfl⟩
theorem dX3_teach_0 : decode M_X3_teach.2.1 0 = .ok (.iload_n 1, 1) := by decide +kernel
theorem dX3_teach_1 : decode M_X3_teach.2.1 1 = .ok (.invokestatic 94, 3) := by decide +kernel
theorem dX3_teach_4 : decode M_X3_teach.2.1 4 = .ok (.ifCond .eq 22, 3) := by decide +kernel
theorem dX3_teach_7 : decode M_X3_teach.2.1 7 = .ok (.iload_n 2, 1) := by decide +kernel
theorem dX3_teach_8 : decode M_X3_teach.2.1 8 = .ok (.iconst 0, 1) := by decide +kernel
theorem dX3_teach_9 : decode M_X3_teach.2.1 9 = .ok (.bipush 30, 2) := by decide +kernel
theorem dX3_teach_11 : decode M_X3_teach.2.1 11 = .ok (.invokestatic 87, 3) := by decide +kernel
theorem dX3_teach_14 : decode M_X3_teach.2.1 14 = .ok (.ifCond .eq 12, 3) := by decide +kernel
theorem dX3_teach_17 : decode M_X3_teach.2.1 17 = .ok (.iload_n 3, 1) := by decide +kernel
theorem dX3_teach_18 : decode M_X3_teach.2.1 18 = .ok (.iconst 0, 1) := by decide +kernel
theorem dX3_teach_19 : decode M_X3_teach.2.1 19 = .ok (.iconst 1, 1) := by decide +kernel
theorem dX3_teach_20 : decode M_X3_teach.2.1 20 = .ok (.invokestatic 87, 3) := by decide +kernel
theorem dX3_teach_23 : decode M_X3_teach.2.1 23 = .ok (.ifCond .ne 5, 3) := by decide +kernel
theorem dX3_teach_26 : decode M_X3_teach.2.1 26 = .ok (.iconst (-1), 1) := by decide +kernel
theorem dX3_teach_27 : decode M_X3_teach.2.1 27 = .ok (.ireturn, 1) := by decide +kernel
theorem dX3_teach_28 : decode M_X3_teach.2.1 28 = .ok (.iconst (-1), 1) := by decide +kernel
theorem dX3_teach_29 : decode M_X3_teach.2.1 29 = .ok (.istore 4, 2) := by decide +kernel
theorem dX3_teach_31 : decode M_X3_teach.2.1 31 = .ok (.iconst 0, 1) := by decide +kernel
theorem dX3_teach_32 : decode M_X3_teach.2.1 32 = .ok (.istore 5, 2) := by decide +kernel
theorem dX3_teach_34 : decode M_X3_teach.2.1 34 = .ok (.iconst 0, 1) := by decide +kernel
theorem dX3_teach_35 : decode M_X3_teach.2.1 35 = .ok (.istore 6, 2) := by decide +kernel
theorem dX3_teach_37 : decode M_X3_teach.2.1 37 = .ok (.iload 6, 2) := by decide +kernel
theorem dX3_teach_39 : decode M_X3_teach.2.1 39 = .ok (.iconst 4, 1) := by decide +kernel
theorem dX3_teach_40 : decode M_X3_teach.2.1 40 = .ok (.if_icmp .ge 47, 3) := by decide +kernel
theorem dX3_teach_43 : decode M_X3_teach.2.1 43 = .ok (.aload_n 0, 1) := by decide +kernel
theorem dX3_teach_44 : decode M_X3_teach.2.1 44 = .ok (.invokevirtual 56, 3) := by decide +kernel
theorem dX3_teach_47 : decode M_X3_teach.2.1 47 = .ok (.aload_n 0, 1) := by decide +kernel
theorem dX3_teach_48 : decode M_X3_teach.2.1 48 = .ok (.getfield 16, 3) := by decide +kernel
theorem dX3_teach_51 : decode M_X3_teach.2.1 51 = .ok (.getfield 205, 3) := by decide +kernel
theorem dX3_teach_54 : decode M_X3_teach.2.1 54 = .ok (.iload_n 1, 1) := by decide +kernel
theorem dX3_teach_55 : decode M_X3_teach.2.1 55 = .ok (.iload 6, 2) := by decide +kernel
theorem dX3_teach_57 : decode M_X3_teach.2.1 57 = .ok (.iastore, 1) := by decide +kernel
theorem dX3_teach_58 : decode M_X3_teach.2.1 58 = .ok (.aload_n 0, 1) := by decide +kernel
theorem dX3_teach_59 : decode M_X3_teach.2.1 59 = .ok (.iload_n 1, 1) := by decide +kernel
theorem dX3_teach_60 : decode M_X3_teach.2.1 60 = .ok (.iload_n 2, 1) := by decide +kernel
theorem dX3_teach_61 : decode M_X3_teach.2.1 61 = .ok (.invokevirtual 175, 3) := by decide +kernel
theorem dX3_teach_64 : decode M_X3_teach.2.1 64 = .ok (.istore 7, 2) := by decide +kernel
theorem dX3_teach_66 : decode M_X3_teach.2.1 66 = .ok (.iload 7, 2) := by decide +kernel
theorem dX3_teach_68 : decode M_X3_teach.2.1 68 = .ok (.iload 4, 2) := by decide +kernel
theorem dX3_teach_70 : decode M_X3_teach.2.1 70 = .ok (.if_icmp .le 11, 3) := by decide +kernel
theorem dX3_teach_73 : decode M_X3_teach.2.1 73 = .ok (.iload 7, 2) := by decide +kernel
theorem dX3_teach_75 : decode M_X3_teach.2.1 75 = .ok (.istore 4, 2) := by decide +kernel
theorem dX3_teach_77 : decode M_X3_teach.2.1 77 = .ok (.iload 6, 2) := by decide +kernel
theorem dX3_teach_79 : decode M_X3_teach.2.1 79 = .ok (.istore 5, 2) := by decide +kernel
theorem dX3_teach_81 : decode M_X3_teach.2.1 81 = .ok (.iinc 6 1, 3) := by decide +kernel
theorem dX3_teach_84 : decode M_X3_teach.2.1 84 = .ok (.goto (-47), 3) := by decide +kernel
theorem dX3_teach_87 : decode M_X3_teach.2.1 87 = .ok (.iload_n 3, 1) := by decide +kernel
theorem dX3_teach_88 : decode M_X3_teach.2.1 88 = .ok (.ifCond .ne 8, 3) := by decide +kernel
theorem dX3_teach_91 : decode M_X3_teach.2.1 91 = .ok (.iload 5, 2) := by decide +kernel
theorem dX3_teach_93 : decode M_X3_teach.2.1 93 = .ok (.goto 5, 3) := by decide +kernel
theorem dX3_teach_96 : decode M_X3_teach.2.1 96 = .ok (.iload 4, 2) := by decide +kernel
theorem dX3_teach_98 : decode M_X3_teach.2.1 98 = .ok (.ireturn, 1) := by decide +kernel
def c_X3_teach_37 (a0 : Nat) (a1 : Int32) (a2 : Int32) (a3 : Int32) (k37 : Int32 → Int32 → Int32 → aW → Option (Int32 × aW)) (b4 : Int32) (b5 : Int32) (b6 : Int32) (w : aW) : Option (Int32 × aW) :=
  if (4 : Int32) ≤ b6 then
    if ¬ a3 = (0 : Int32) then
      some (b4, w)
    else
      some (b5, w)
  else
    cV 2 w a0 (bk (f_X3_think a0 w) fun _ w7 =>
    (gR 2 w7 a0 1).bind fun r8 =>
    (gR 0 w7 r8 11).bind fun r9 =>
    (sA w7 r9 a1 b6).bind fun w10 =>
    cV 2 w10 a0 (bk (f_X3_meansBehind a0 a1 a2 w10) fun x12 w11 =>
    if x12 ≤ b4 then
      k37 b4 b5 (b6 + 1) w11
    else
      k37 x12 b6 (b6 + 1) w11))
theorem t_X3_teach_37 (a0 : Nat) (a1 : Int32) (a2 : Int32) (a3 : Int32) (k37 : Int32 → Int32 → Int32 → aW → Option (Int32 × aW)) (hk37 : ∀ (b4 : Int32) (b5 : Int32) (b6 : Int32) (w : aW), Ev rvI M_X3_teach 37 [some (.ref a0), some (.int a1), some (.int a2), some (.int a3), some (.int b4), some (.int b5), some (.int b6), none] [] w (k37 b4 b5 b6 w)) (b4 : Int32) (b5 : Int32) (b6 : Int32) (w : aW) : Ev rvI M_X3_teach 37 [some (.ref a0), some (.int a1), some (.int a2), some (.int a3), some (.int b4), some (.int b5), some (.int b6), none] [] w (c_X3_teach_37 a0 a1 a2 a3 k37 b4 b5 b6 w) := by
  unfold c_X3_teach_37
  refine e_iload (pc := 37) dX3_teach_37 rfl ?_
  refine e_iconst (pc := 39) dX3_teach_39 kc_4 ?_
  refine e_icmp_ge (pc := 40) (tgt := 87) dX3_teach_40 (by decide) (fun _ => ?_) (fun _ => ?_)
  · refine e_iload_n (pc := 87) dX3_teach_87 rfl rfl ?_
    refine e_if_ne (pc := 88) (tgt := 96) dX3_teach_88 (by decide) (fun _ => ?_) (fun _ => ?_)
    · refine e_iload (pc := 96) dX3_teach_96 rfl ?_
      exact e_iret (pc := 98) dX3_teach_98 rfl rfl
    · refine e_iload (pc := 91) dX3_teach_91 rfl ?_
      refine e_goto (pc := 93) (tgt := 98) dX3_teach_93 (by decide) ?_
      exact e_iret (pc := 98) dX3_teach_98 rfl rfl
  · refine e_aload_n (pc := 43) dX3_teach_43 rfl rfl ?_
    refine e_callV (pc := 44) (av := []) (S := []) (c0 := 2) rfl rfl ok_X3_think ⟨Nat.le_of_ble_eq_true rfl, Nat.le_of_ble_eq_true rfl⟩ hv_X3_56 dX3_teach_44 (s_X3_think a0 w) rfl rfl (Nat.le_of_ble_eq_true rfl) (fun _ w7 => ?_)
    refine e_aload_n (pc := 47) dX3_teach_47 rfl rfl ?_
    refine e_getR (pc := 48) dX3_teach_48 hs_X3_16 (fun r8 => ?_)
    refine e_getR (pc := 51) dX3_teach_51 hs_X3_205 (fun r9 => ?_)
    refine e_iload_n (pc := 54) dX3_teach_54 rfl rfl ?_
    refine e_iload (pc := 55) dX3_teach_55 rfl ?_
    refine e_iast (pc := 57) dX3_teach_57 (fun w10 => ?_)
    refine e_aload_n (pc := 58) dX3_teach_58 rfl rfl ?_
    refine e_iload_n (pc := 59) dX3_teach_59 rfl rfl ?_
    refine e_iload_n (pc := 60) dX3_teach_60 rfl rfl ?_
    refine e_callV (pc := 61) (av := [.int a1, .int a2]) (S := []) (c0 := 2) rfl rfl ok_X3_meansBehind ⟨Nat.le_of_ble_eq_true rfl, Nat.le_of_ble_eq_true rfl⟩ hv_X3_175 dX3_teach_61 (s_X3_meansBehind a0 a1 a2 w10) rfl rfl (Nat.le_of_ble_eq_true rfl) (fun x12 w11 => ?_)
    refine e_istore (L' := [some (.ref a0), some (.int a1), some (.int a2), some (.int a3), some (.int b4), some (.int b5), some (.int b6), some (.int x12)]) (pc := 64) dX3_teach_64 (by decide) rfl ?_
    refine e_iload (pc := 66) dX3_teach_66 rfl ?_
    refine e_iload (pc := 68) dX3_teach_68 rfl ?_
    refine e_icmp_le (pc := 70) (tgt := 81) dX3_teach_70 (by decide) (fun _ => ?_) (fun _ => ?_)
    · refine e_iinc (L' := [some (.ref a0), some (.int a1), some (.int a2), some (.int a3), some (.int b4), some (.int b5), some (.int (b6 + 1)), some (.int x12)]) (pc := 81) (v := 1) dX3_teach_81 (by decide) rfl kc_1 rfl ?_
      refine e_goto (pc := 84) (tgt := 37) dX3_teach_84 (by decide) ?_
      refine e_forget (L2 := [some (.ref a0), some (.int a1), some (.int a2), some (.int a3), some (.int b4), some (.int b5), some (.int (b6 + 1)), none]) (And.intro rfl (And.intro rfl (And.intro rfl (And.intro rfl (And.intro rfl (And.intro rfl (And.intro rfl trivial))))))) ?_
      exact hk37 b4 b5 (b6 + 1) w11
    · refine e_iload (pc := 73) dX3_teach_73 rfl ?_
      refine e_istore (L' := [some (.ref a0), some (.int a1), some (.int a2), some (.int a3), some (.int x12), some (.int b5), some (.int b6), some (.int x12)]) (pc := 75) dX3_teach_75 (by decide) rfl ?_
      refine e_iload (pc := 77) dX3_teach_77 rfl ?_
      refine e_istore (L' := [some (.ref a0), some (.int a1), some (.int a2), some (.int a3), some (.int x12), some (.int b6), some (.int b6), some (.int x12)]) (pc := 79) dX3_teach_79 (by decide) rfl ?_
      refine e_iinc (L' := [some (.ref a0), some (.int a1), some (.int a2), some (.int a3), some (.int x12), some (.int b6), some (.int (b6 + 1)), some (.int x12)]) (pc := 81) (v := 1) dX3_teach_81 (by decide) rfl kc_1 rfl ?_
      refine e_goto (pc := 84) (tgt := 37) dX3_teach_84 (by decide) ?_
      refine e_forget (L2 := [some (.ref a0), some (.int a1), some (.int a2), some (.int a3), some (.int x12), some (.int b6), some (.int (b6 + 1)), none]) (And.intro rfl (And.intro rfl (And.intro rfl (And.intro rfl (And.intro rfl (And.intro rfl (And.intro rfl trivial))))))) ?_
      exact hk37 x12 b6 (b6 + 1) w11
def f_X3_teach (a0 : Nat) (a1 : Int32) (a2 : Int32) (a3 : Int32) (w : aW) : Option (Int32 × aW) :=
  bk (f_X3_isPerson a1 w) fun x2 w1 =>
  if x2 = (0 : Int32) then
    some ((-1 : Int32), w1)
  else
    bk (f_X3_within a2 (0 : Int32) (30 : Int32) w1) fun x4 w3 =>
    if x4 = (0 : Int32) then
      some ((-1 : Int32), w3)
    else
      bk (f_X3_within a3 (0 : Int32) (1 : Int32) w3) fun x6 w5 =>
      if ¬ x6 = (0 : Int32) then
        loop4 (c_X3_teach_37 a0 a1 a2 a3) a_fuel (-1 : Int32) (0 : Int32) (0 : Int32) w5
      else
        some ((-1 : Int32), w5)
theorem s_X3_teach (a0 : Nat) (a1 : Int32) (a2 : Int32) (a3 : Int32) (w : aW) : Sp rvI M_X3_teach [.ref a0, .int a1, .int a2, .int a3] w (f_X3_teach a0 a1 a2 a3 w) := by
  refine e_entry [some (.ref a0), some (.int a1), some (.int a2), some (.int a3), none, none, none, none] (by decide +kernel) (Nat.le_of_ble_eq_true rfl) (fun _ => rfl) ?_
  unfold f_X3_teach
  refine e_iload_n (pc := 0) dX3_teach_0 rfl rfl ?_
  refine e_callS (pc := 1) (av := [.int a1]) (S := []) ok_X3_isPerson ⟨Nat.le_of_ble_eq_true rfl, Nat.le_of_ble_eq_true rfl⟩ ht_X3_94 dX3_teach_1 (s_X3_isPerson a1 w) rfl rfl (Nat.le_of_ble_eq_true rfl) (fun x2 w1 => ?_)
  refine e_if_eq (pc := 4) (tgt := 26) dX3_teach_4 (by decide) (fun _ => ?_) (fun _ => ?_)
  · refine e_iconst (pc := 26) dX3_teach_26 kc_m1 ?_
    exact e_iret (pc := 27) dX3_teach_27 rfl rfl
  · refine e_iload_n (pc := 7) dX3_teach_7 rfl rfl ?_
    refine e_iconst (pc := 8) dX3_teach_8 kc_0 ?_
    refine e_bipush (pc := 9) dX3_teach_9 kb_30 ?_
    refine e_callS (pc := 11) (av := [.int a2, .int (0 : Int32), .int (30 : Int32)]) (S := []) ok_X3_within ⟨Nat.le_of_ble_eq_true rfl, Nat.le_of_ble_eq_true rfl⟩ ht_X3_87 dX3_teach_11 (s_X3_within a2 (0 : Int32) (30 : Int32) w1) rfl rfl (Nat.le_of_ble_eq_true rfl) (fun x4 w3 => ?_)
    refine e_if_eq (pc := 14) (tgt := 26) dX3_teach_14 (by decide) (fun _ => ?_) (fun _ => ?_)
    · refine e_iconst (pc := 26) dX3_teach_26 kc_m1 ?_
      exact e_iret (pc := 27) dX3_teach_27 rfl rfl
    · refine e_iload_n (pc := 17) dX3_teach_17 rfl rfl ?_
      refine e_iconst (pc := 18) dX3_teach_18 kc_0 ?_
      refine e_iconst (pc := 19) dX3_teach_19 kc_1 ?_
      refine e_callS (pc := 20) (av := [.int a3, .int (0 : Int32), .int (1 : Int32)]) (S := []) ok_X3_within ⟨Nat.le_of_ble_eq_true rfl, Nat.le_of_ble_eq_true rfl⟩ ht_X3_87 dX3_teach_20 (s_X3_within a3 (0 : Int32) (1 : Int32) w3) rfl rfl (Nat.le_of_ble_eq_true rfl) (fun x6 w5 => ?_)
      refine e_if_ne (pc := 23) (tgt := 28) dX3_teach_23 (by decide) (fun _ => ?_) (fun _ => ?_)
      · refine e_iconst (pc := 28) dX3_teach_28 kc_m1 ?_
        refine e_istore (L' := [some (.ref a0), some (.int a1), some (.int a2), some (.int a3), some (.int (-1 : Int32)), none, none, none]) (pc := 29) dX3_teach_29 (by decide) rfl ?_
        refine e_iconst (pc := 31) dX3_teach_31 kc_0 ?_
        refine e_istore (L' := [some (.ref a0), some (.int a1), some (.int a2), some (.int a3), some (.int (-1 : Int32)), some (.int (0 : Int32)), none, none]) (pc := 32) dX3_teach_32 (by decide) rfl ?_
        refine e_iconst (pc := 34) dX3_teach_34 kc_0 ?_
        refine e_istore (L' := [some (.ref a0), some (.int a1), some (.int a2), some (.int a3), some (.int (-1 : Int32)), some (.int (0 : Int32)), some (.int (0 : Int32)), none]) (pc := 35) dX3_teach_35 (by decide) rfl ?_
        exact e_loop4 (L := fun b4 b5 b6 => [some (.ref a0), some (.int a1), some (.int a2), some (.int a3), some (.int b4), some (.int b5), some (.int b6), none]) (S := fun b4 b5 b6 => []) (fun kf hkf => t_X3_teach_37 a0 a1 a2 a3  kf hkf) _ (-1 : Int32) (0 : Int32) (0 : Int32) w5
      · refine e_iconst (pc := 26) dX3_teach_26 kc_m1 ?_
        exact e_iret (pc := 27) dX3_teach_27 rfl rfl
def M_X3_of : aM := (yX3_of, cX3_of, 2, (some .int), 2, 47)
theorem ok_X3_of : a_okM M_X3_of 1 := ⟨⟨by decide +kernel, by decide +kernel⟩, by decide +kernel, a_in 560 (by decide +kernel) rfl, a_in 76 (by decide +kernel) rfl⟩
theorem dX3_of_0 : decode M_X3_of.2.1 0 = .ok (.iload_n 1, 1) := by decide +kernel
theorem dX3_of_1 : decode M_X3_of.2.1 1 = .ok (.tableswitch 75 0 4 #[35, 43, 51, 59, 67], 35) := by decide +kernel
theorem dX3_of_36 : decode M_X3_of.2.1 36 = .ok (.aload_n 0, 1) := by decide +kernel
theorem dX3_of_37 : decode M_X3_of.2.1 37 = .ok (.getfield 10, 3) := by decide +kernel
theorem dX3_of_40 : decode M_X3_of.2.1 40 = .ok (.invokevirtual 208, 3) := by decide +kernel
theorem dX3_of_43 : decode M_X3_of.2.1 43 = .ok (.ireturn, 1) := by decide +kernel
theorem dX3_of_44 : decode M_X3_of.2.1 44 = .ok (.aload_n 0, 1) := by decide +kernel
theorem dX3_of_45 : decode M_X3_of.2.1 45 = .ok (.getfield 10, 3) := by decide +kernel
theorem dX3_of_48 : decode M_X3_of.2.1 48 = .ok (.invokevirtual 211, 3) := by decide +kernel
theorem dX3_of_51 : decode M_X3_of.2.1 51 = .ok (.ireturn, 1) := by decide +kernel
theorem dX3_of_52 : decode M_X3_of.2.1 52 = .ok (.aload_n 0, 1) := by decide +kernel
theorem dX3_of_53 : decode M_X3_of.2.1 53 = .ok (.getfield 10, 3) := by decide +kernel
theorem dX3_of_56 : decode M_X3_of.2.1 56 = .ok (.invokevirtual 178, 3) := by decide +kernel
theorem dX3_of_59 : decode M_X3_of.2.1 59 = .ok (.ireturn, 1) := by decide +kernel
theorem dX3_of_60 : decode M_X3_of.2.1 60 = .ok (.aload_n 0, 1) := by decide +kernel
theorem dX3_of_61 : decode M_X3_of.2.1 61 = .ok (.getfield 10, 3) := by decide +kernel
theorem dX3_of_64 : decode M_X3_of.2.1 64 = .ok (.invokevirtual 214, 3) := by decide +kernel
theorem dX3_of_67 : decode M_X3_of.2.1 67 = .ok (.ireturn, 1) := by decide +kernel
theorem dX3_of_68 : decode M_X3_of.2.1 68 = .ok (.aload_n 0, 1) := by decide +kernel
theorem dX3_of_69 : decode M_X3_of.2.1 69 = .ok (.getfield 10, 3) := by decide +kernel
theorem dX3_of_72 : decode M_X3_of.2.1 72 = .ok (.invokevirtual 217, 3) := by decide +kernel
theorem dX3_of_75 : decode M_X3_of.2.1 75 = .ok (.ireturn, 1) := by decide +kernel
theorem dX3_of_76 : decode M_X3_of.2.1 76 = .ok (.iconst (-1), 1) := by decide +kernel
theorem dX3_of_77 : decode M_X3_of.2.1 77 = .ok (.ireturn, 1) := by decide +kernel
theorem hv_X3_208 : a_okV RX3 M_X0_richest 208 := ⟨a_in 561 (by decide +kernel) rfl, a_in 330 (by decide +kernel) rfl, a_in 331 (by decide +kernel) rfl⟩
theorem hv_X3_211 : a_okV RX3 M_X0_loudest 211 := ⟨a_in 562 (by decide +kernel) rfl, a_in 563 (by decide +kernel) rfl, a_in 564 (by decide +kernel) rfl⟩
theorem hv_X3_214 : a_okV RX3 M_X0_pairsTogether 214 := ⟨a_in 566 (by decide +kernel) rfl, a_in 567 (by decide +kernel) rfl, a_in 568 (by decide +kernel) rfl⟩
theorem hv_X3_217 : a_okV RX3 M_X0_hungriest 217 := ⟨a_in 570 (by decide +kernel) rfl, a_in 571 (by decide +kernel) rfl, a_in 572 (by decide +kernel) rfl⟩
def f_X3_of (a0 : Nat) (a1 : Int32) (w : aW) : Option (Int32 × aW) :=
  if a1 = (0 : Int32) then
    (gR 2 w a0 0).bind fun r2 =>
    cV 0 w r2 (bk (f_X0_richest r2 w) fun x4 w3 =>
    some (x4, w3))
  else
    if a1 = (1 : Int32) then
      (gR 2 w a0 0).bind fun r6 =>
      cV 0 w r6 (bk (f_X0_loudest r6 w) fun x8 w7 =>
      some (x8, w7))
    else
      if a1 = (2 : Int32) then
        (gR 2 w a0 0).bind fun r10 =>
        cV 0 w r10 (bk (f_X0_freeOnes r10 w) fun x12 w11 =>
        some (x12, w11))
      else
        if a1 = (3 : Int32) then
          (gR 2 w a0 0).bind fun r14 =>
          cV 0 w r14 (bk (f_X0_pairsTogether r14 w) fun x16 w15 =>
          some (x16, w15))
        else
          if a1 = (4 : Int32) then
            (gR 2 w a0 0).bind fun r18 =>
            cV 0 w r18 (bk (f_X0_hungriest r18 w) fun x20 w19 =>
            some (x20, w19))
          else
            some ((-1 : Int32), w)
theorem s_X3_of (a0 : Nat) (a1 : Int32) (w : aW) : Sp rvI M_X3_of [.ref a0, .int a1] w (f_X3_of a0 a1 w) := by
  refine e_entry [some (.ref a0), some (.int a1)] (by decide +kernel) (Nat.le_of_ble_eq_true rfl) (fun _ => rfl) ?_
  unfold f_X3_of
  refine e_iload_n (pc := 0) dX3_of_0 rfl rfl ?_
  refine e_ite (fun h1 => ?_) (fun h1 => ?_)
  · refine e_tabIn (pc := 1) (v := 0) (j := 0) (tgt := 36) dX3_of_1 h1 rfl (by decide) (by decide) rfl (by decide) ?_
    refine e_aload_n (pc := 36) dX3_of_36 rfl rfl ?_
    refine e_getR (pc := 37) dX3_of_37 hs_X3_10 (fun r2 => ?_)
    refine e_callV (pc := 40) (av := []) (S := []) (c0 := 0) rfl rfl ok_X0_richest ⟨Nat.le_of_ble_eq_true rfl, Nat.le_of_ble_eq_true rfl⟩ hv_X3_208 dX3_of_40 (s_X0_richest r2 w) rfl rfl (Nat.le_of_ble_eq_true rfl) (fun x4 w3 => ?_)
    exact e_iret (pc := 43) dX3_of_43 rfl rfl
  · refine e_ite (fun h5 => ?_) (fun h5 => ?_)
    · refine e_tabIn (pc := 1) (v := 1) (j := 1) (tgt := 44) dX3_of_1 h5 rfl (by decide) (by decide) rfl (by decide) ?_
      refine e_aload_n (pc := 44) dX3_of_44 rfl rfl ?_
      refine e_getR (pc := 45) dX3_of_45 hs_X3_10 (fun r6 => ?_)
      refine e_callV (pc := 48) (av := []) (S := []) (c0 := 0) rfl rfl ok_X0_loudest ⟨Nat.le_of_ble_eq_true rfl, Nat.le_of_ble_eq_true rfl⟩ hv_X3_211 dX3_of_48 (s_X0_loudest r6 w) rfl rfl (Nat.le_of_ble_eq_true rfl) (fun x8 w7 => ?_)
      exact e_iret (pc := 51) dX3_of_51 rfl rfl
    · refine e_ite (fun h9 => ?_) (fun h9 => ?_)
      · refine e_tabIn (pc := 1) (v := 2) (j := 2) (tgt := 52) dX3_of_1 h9 rfl (by decide) (by decide) rfl (by decide) ?_
        refine e_aload_n (pc := 52) dX3_of_52 rfl rfl ?_
        refine e_getR (pc := 53) dX3_of_53 hs_X3_10 (fun r10 => ?_)
        refine e_callV (pc := 56) (av := []) (S := []) (c0 := 0) rfl rfl ok_X0_freeOnes ⟨Nat.le_of_ble_eq_true rfl, Nat.le_of_ble_eq_true rfl⟩ hv_X3_178 dX3_of_56 (s_X0_freeOnes r10 w) rfl rfl (Nat.le_of_ble_eq_true rfl) (fun x12 w11 => ?_)
        exact e_iret (pc := 59) dX3_of_59 rfl rfl
      · refine e_ite (fun h13 => ?_) (fun h13 => ?_)
        · refine e_tabIn (pc := 1) (v := 3) (j := 3) (tgt := 60) dX3_of_1 h13 rfl (by decide) (by decide) rfl (by decide) ?_
          refine e_aload_n (pc := 60) dX3_of_60 rfl rfl ?_
          refine e_getR (pc := 61) dX3_of_61 hs_X3_10 (fun r14 => ?_)
          refine e_callV (pc := 64) (av := []) (S := []) (c0 := 0) rfl rfl ok_X0_pairsTogether ⟨Nat.le_of_ble_eq_true rfl, Nat.le_of_ble_eq_true rfl⟩ hv_X3_214 dX3_of_64 (s_X0_pairsTogether r14 w) rfl rfl (Nat.le_of_ble_eq_true rfl) (fun x16 w15 => ?_)
          exact e_iret (pc := 67) dX3_of_67 rfl rfl
        · refine e_ite (fun h17 => ?_) (fun h17 => ?_)
          · refine e_tabIn (pc := 1) (v := 4) (j := 4) (tgt := 68) dX3_of_1 h17 rfl (by decide) (by decide) rfl (by decide) ?_
            refine e_aload_n (pc := 68) dX3_of_68 rfl rfl ?_
            refine e_getR (pc := 69) dX3_of_69 hs_X3_10 (fun r18 => ?_)
            refine e_callV (pc := 72) (av := []) (S := []) (c0 := 0) rfl rfl ok_X0_hungriest ⟨Nat.le_of_ble_eq_true rfl, Nat.le_of_ble_eq_true rfl⟩ hv_X3_217 dX3_of_72 (s_X0_hungriest r18 w) rfl rfl (Nat.le_of_ble_eq_true rfl) (fun x20 w19 => ?_)
            exact e_iret (pc := 75) dX3_of_75 rfl rfl
          · refine e_tabOut (pc := 1) (tgt := 76) dX3_of_1 (by have z0 := lv_neT h1 (show (0 : Int32).toInt = 0 from rfl); have z1 := lv_neT h5 (show (1 : Int32).toInt = 1 from rfl); have z2 := lv_neT h9 (show (2 : Int32).toInt = 2 from rfl); have z3 := lv_neT h13 (show (3 : Int32).toInt = 3 from rfl); have z4 := lv_neT h17 (show (4 : Int32).toInt = 4 from rfl); omega) (by decide) ?_
            refine e_iconst (pc := 76) dX3_of_76 kc_m1 ?_
            exact e_iret (pc := 77) dX3_of_77 rfl rfl
def M_X3_nearest : aM := (yX3_nearest, cX3_nearest, 2, (some .int), 2, 46)
theorem ok_X3_nearest : a_okM M_X3_nearest 1 := ⟨⟨by decide +kernel, by decide +kernel⟩, by decide +kernel, a_in 577 (by decide +kernel) rfl, a_in 76 (by decide +kernel) rfl⟩
theorem dX3_nearest_0 : decode M_X3_nearest.2.1 0 = .ok (.aload_n 0, 1) := by decide +kernel
theorem dX3_nearest_1 : decode M_X3_nearest.2.1 1 = .ok (.getfield 10, 3) := by decide +kernel
theorem dX3_nearest_4 : decode M_X3_nearest.2.1 4 = .ok (.iload_n 1, 1) := by decide +kernel
theorem dX3_nearest_5 : decode M_X3_nearest.2.1 5 = .ok (.invokevirtual 83, 3) := by decide +kernel
theorem dX3_nearest_8 : decode M_X3_nearest.2.1 8 = .ok (.ifCond .ne 5, 3) := by decide +kernel
theorem dX3_nearest_11 : decode M_X3_nearest.2.1 11 = .ok (.iconst (-1), 1) := by decide +kernel
theorem dX3_nearest_12 : decode M_X3_nearest.2.1 12 = .ok (.ireturn, 1) := by decide +kernel
theorem dX3_nearest_13 : decode M_X3_nearest.2.1 13 = .ok (.aload_n 0, 1) := by decide +kernel
theorem dX3_nearest_14 : decode M_X3_nearest.2.1 14 = .ok (.getfield 10, 3) := by decide +kernel
theorem dX3_nearest_17 : decode M_X3_nearest.2.1 17 = .ok (.iload_n 1, 1) := by decide +kernel
theorem dX3_nearest_18 : decode M_X3_nearest.2.1 18 = .ok (.invokevirtual 160, 3) := by decide +kernel
theorem dX3_nearest_21 : decode M_X3_nearest.2.1 21 = .ok (.ifCond .eq 14, 3) := by decide +kernel
theorem dX3_nearest_24 : decode M_X3_nearest.2.1 24 = .ok (.aload_n 0, 1) := by decide +kernel
theorem dX3_nearest_25 : decode M_X3_nearest.2.1 25 = .ok (.getfield 10, 3) := by decide +kernel
theorem dX3_nearest_28 : decode M_X3_nearest.2.1 28 = .ok (.iload_n 1, 1) := by decide +kernel
theorem dX3_nearest_29 : decode M_X3_nearest.2.1 29 = .ok (.invokevirtual 220, 3) := by decide +kernel
theorem dX3_nearest_32 : decode M_X3_nearest.2.1 32 = .ok (.goto 5, 3) := by decide +kernel
theorem dX3_nearest_35 : decode M_X3_nearest.2.1 35 = .ok (.bipush (-3), 2) := by decide +kernel
theorem dX3_nearest_37 : decode M_X3_nearest.2.1 37 = .ok (.ireturn, 1) := by decide +kernel
theorem hv_X3_220 : a_okV RX3 M_X0_nearestTo 220 := ⟨a_in 578 (by decide +kernel) rfl, a_in 323 (by decide +kernel) rfl, a_in 324 (by decide +kernel) rfl⟩
def f_X3_nearest (a0 : Nat) (a1 : Int32) (w : aW) : Option (Int32 × aW) :=
  (gR 2 w a0 0).bind fun r1 =>
  cV 0 w r1 (bk (f_X0_hasBeast r1 a1 w) fun x3 w2 =>
  if ¬ x3 = (0 : Int32) then
    (gR 2 w2 a0 0).bind fun r4 =>
    cV 0 w2 r4 (bk (f_X0_isAlive r4 a1 w2) fun x6 w5 =>
    if x6 = (0 : Int32) then
      some ((-3 : Int32), w5)
    else
      (gR 2 w5 a0 0).bind fun r7 =>
      cV 0 w5 r7 (bk (f_X0_nearestTo r7 a1 w5) fun x9 w8 =>
      some (x9, w8)))
  else
    some ((-1 : Int32), w2))
theorem s_X3_nearest (a0 : Nat) (a1 : Int32) (w : aW) : Sp rvI M_X3_nearest [.ref a0, .int a1] w (f_X3_nearest a0 a1 w) := by
  refine e_entry [some (.ref a0), some (.int a1)] (by decide +kernel) (Nat.le_of_ble_eq_true rfl) (fun _ => rfl) ?_
  unfold f_X3_nearest
  refine e_aload_n (pc := 0) dX3_nearest_0 rfl rfl ?_
  refine e_getR (pc := 1) dX3_nearest_1 hs_X3_10 (fun r1 => ?_)
  refine e_iload_n (pc := 4) dX3_nearest_4 rfl rfl ?_
  refine e_callV (pc := 5) (av := [.int a1]) (S := []) (c0 := 0) rfl rfl ok_X0_hasBeast ⟨Nat.le_of_ble_eq_true rfl, Nat.le_of_ble_eq_true rfl⟩ hv_X3_83 dX3_nearest_5 (s_X0_hasBeast r1 a1 w) rfl rfl (Nat.le_of_ble_eq_true rfl) (fun x3 w2 => ?_)
  refine e_if_ne (pc := 8) (tgt := 13) dX3_nearest_8 (by decide) (fun _ => ?_) (fun _ => ?_)
  · refine e_aload_n (pc := 13) dX3_nearest_13 rfl rfl ?_
    refine e_getR (pc := 14) dX3_nearest_14 hs_X3_10 (fun r4 => ?_)
    refine e_iload_n (pc := 17) dX3_nearest_17 rfl rfl ?_
    refine e_callV (pc := 18) (av := [.int a1]) (S := []) (c0 := 0) rfl rfl ok_X0_isAlive ⟨Nat.le_of_ble_eq_true rfl, Nat.le_of_ble_eq_true rfl⟩ hv_X3_160 dX3_nearest_18 (s_X0_isAlive r4 a1 w2) rfl rfl (Nat.le_of_ble_eq_true rfl) (fun x6 w5 => ?_)
    refine e_if_eq (pc := 21) (tgt := 35) dX3_nearest_21 (by decide) (fun _ => ?_) (fun _ => ?_)
    · refine e_bipush (pc := 35) dX3_nearest_35 kb_m3 ?_
      exact e_iret (pc := 37) dX3_nearest_37 rfl rfl
    · refine e_aload_n (pc := 24) dX3_nearest_24 rfl rfl ?_
      refine e_getR (pc := 25) dX3_nearest_25 hs_X3_10 (fun r7 => ?_)
      refine e_iload_n (pc := 28) dX3_nearest_28 rfl rfl ?_
      refine e_callV (pc := 29) (av := [.int a1]) (S := []) (c0 := 0) rfl rfl ok_X0_nearestTo ⟨Nat.le_of_ble_eq_true rfl, Nat.le_of_ble_eq_true rfl⟩ hv_X3_220 dX3_nearest_29 (s_X0_nearestTo r7 a1 w5) rfl rfl (Nat.le_of_ble_eq_true rfl) (fun x9 w8 => ?_)
      refine e_goto (pc := 32) (tgt := 37) dX3_nearest_32 (by decide) ?_
      exact e_iret (pc := 37) dX3_nearest_37 rfl rfl
  · refine e_iconst (pc := 11) dX3_nearest_11 kc_m1 ?_
    exact e_iret (pc := 12) dX3_nearest_12 rfl rfl
def M_X3_fits : aM := (yX3_fits, cX3_fits, 5, (some .boolean), 4, 91)
theorem ok_X3_fits : a_okM M_X3_fits 3 := ⟨⟨by decide +kernel, by decide +kernel⟩, by decide +kernel, a_in 594 (by decide +kernel) rfl, a_in 76 (by decide +kernel) rfl⟩
theorem dX3_fits_0 : decode M_X3_fits.2.1 0 = .ok (.iconst 0, 1) := by decide +kernel
theorem dX3_fits_1 : decode M_X3_fits.2.1 1 = .ok (.istore 4, 2) := by decide +kernel
theorem dX3_fits_3 : decode M_X3_fits.2.1 3 = .ok (.iload 4, 2) := by decide +kernel
theorem dX3_fits_5 : decode M_X3_fits.2.1 5 = .ok (.aload_n 1, 1) := by decide +kernel
theorem dX3_fits_6 : decode M_X3_fits.2.1 6 = .ok (.getfield 59, 3) := by decide +kernel
theorem dX3_fits_9 : decode M_X3_fits.2.1 9 = .ok (.if_icmp .ge 46, 3) := by decide +kernel
theorem dX3_fits_12 : decode M_X3_fits.2.1 12 = .ok (.aload_n 1, 1) := by decide +kernel
theorem dX3_fits_13 : decode M_X3_fits.2.1 13 = .ok (.iload 4, 2) := by decide +kernel
theorem dX3_fits_15 : decode M_X3_fits.2.1 15 = .ok (.invokevirtual 262, 3) := by decide +kernel
theorem dX3_fits_18 : decode M_X3_fits.2.1 18 = .ok (.ifCond .eq 23, 3) := by decide +kernel
theorem dX3_fits_21 : decode M_X3_fits.2.1 21 = .ok (.aload_n 1, 1) := by decide +kernel
theorem dX3_fits_22 : decode M_X3_fits.2.1 22 = .ok (.iload 4, 2) := by decide +kernel
theorem dX3_fits_24 : decode M_X3_fits.2.1 24 = .ok (.invokevirtual 66, 3) := by decide +kernel
theorem dX3_fits_27 : decode M_X3_fits.2.1 27 = .ok (.aload_n 0, 1) := by decide +kernel
theorem dX3_fits_28 : decode M_X3_fits.2.1 28 = .ok (.getfield 16, 3) := by decide +kernel
theorem dX3_fits_31 : decode M_X3_fits.2.1 31 = .ok (.iload_n 2, 1) := by decide +kernel
theorem dX3_fits_32 : decode M_X3_fits.2.1 32 = .ok (.iload_n 3, 1) := by decide +kernel
theorem dX3_fits_33 : decode M_X3_fits.2.1 33 = .ok (.invokevirtual 91, 3) := by decide +kernel
theorem dX3_fits_36 : decode M_X3_fits.2.1 36 = .ok (.if_icmp .eq 5, 3) := by decide +kernel
theorem dX3_fits_39 : decode M_X3_fits.2.1 39 = .ok (.iconst 0, 1) := by decide +kernel
theorem dX3_fits_40 : decode M_X3_fits.2.1 40 = .ok (.ireturn, 1) := by decide +kernel
theorem dX3_fits_41 : decode M_X3_fits.2.1 41 = .ok (.aload_n 0, 1) := by decide +kernel
theorem dX3_fits_42 : decode M_X3_fits.2.1 42 = .ok (.getfield 16, 3) := by decide +kernel
theorem dX3_fits_45 : decode M_X3_fits.2.1 45 = .ok (.iconst 0, 1) := by decide +kernel
theorem dX3_fits_46 : decode M_X3_fits.2.1 46 = .ok (.invokevirtual 154, 3) := by decide +kernel
theorem dX3_fits_49 : decode M_X3_fits.2.1 49 = .ok (.iinc 4 1, 3) := by decide +kernel
theorem dX3_fits_52 : decode M_X3_fits.2.1 52 = .ok (.goto (-49), 3) := by decide +kernel
theorem dX3_fits_55 : decode M_X3_fits.2.1 55 = .ok (.iconst 1, 1) := by decide +kernel
theorem dX3_fits_56 : decode M_X3_fits.2.1 56 = .ok (.ireturn, 1) := by decide +kernel
theorem hv_X3_262 : a_okV RX3 M_X1_tells 262 := ⟨a_in 595 (by decide +kernel) rfl, a_in 596 (by decide +kernel) rfl, a_in 597 (by decide +kernel) rfl⟩
def c_X3_fits_3 (a0 : Nat) (a1 : Nat) (a2 : Int32) (a3 : Int32) (k3 : Int32 → aW → Option (Int32 × aW)) (b4 : Int32) (w : aW) : Option (Int32 × aW) :=
  (gI 1 w a1 4).bind fun x1 =>
  if x1 ≤ b4 then
    some ((1 : Int32), w)
  else
    cV 1 w a1 (bk (f_X1_tells a1 b4 w) fun x3 w2 =>
    if x3 = (0 : Int32) then
      (gR 2 w2 a0 1).bind fun r4 =>
      cV 0 w2 r4 (bk (f_X0_passDay r4 (0 : Int32) w2) fun _ w5 =>
      k3 (b4 + 1) w5)
    else
      cV 1 w2 a1 (bk (f_X1_at a1 b4 w2) fun x7 w6 =>
      (gR 2 w6 a0 1).bind fun r8 =>
      cV 0 w6 r8 (bk (f_X0_toldOfBeast r8 a2 a3 w6) fun x10 w9 =>
      if x7 = x10 then
        (gR 2 w9 a0 1).bind fun r11 =>
        cV 0 w9 r11 (bk (f_X0_passDay r11 (0 : Int32) w9) fun _ w12 =>
        k3 (b4 + 1) w12)
      else
        some ((0 : Int32), w9))))
theorem t_X3_fits_3 (a0 : Nat) (a1 : Nat) (a2 : Int32) (a3 : Int32) (k3 : Int32 → aW → Option (Int32 × aW)) (hk3 : ∀ (b4 : Int32) (w : aW), Ev rvI M_X3_fits 3 [some (.ref a0), some (.ref a1), some (.int a2), some (.int a3), some (.int b4)] [] w (k3 b4 w)) (b4 : Int32) (w : aW) : Ev rvI M_X3_fits 3 [some (.ref a0), some (.ref a1), some (.int a2), some (.int a3), some (.int b4)] [] w (c_X3_fits_3 a0 a1 a2 a3 k3 b4 w) := by
  unfold c_X3_fits_3
  refine e_iload (pc := 3) dX3_fits_3 rfl ?_
  refine e_aload_n (pc := 5) dX3_fits_5 rfl rfl ?_
  refine e_getI (pc := 6) dX3_fits_6 hs_X3_59 (fun x1 => ?_)
  refine e_icmp_ge (pc := 9) (tgt := 55) dX3_fits_9 (by decide) (fun _ => ?_) (fun _ => ?_)
  · refine e_iconst (pc := 55) dX3_fits_55 kc_1 ?_
    exact e_iret (pc := 56) dX3_fits_56 rfl (a_nb (by decide))
  · refine e_aload_n (pc := 12) dX3_fits_12 rfl rfl ?_
    refine e_iload (pc := 13) dX3_fits_13 rfl ?_
    refine e_callV (pc := 15) (av := [.int b4]) (S := []) (c0 := 1) rfl rfl ok_X1_tells ⟨Nat.le_of_ble_eq_true rfl, Nat.le_of_ble_eq_true rfl⟩ hv_X3_262 dX3_fits_15 (s_X1_tells a1 b4 w) rfl rfl (Nat.le_of_ble_eq_true rfl) (fun x3 w2 => ?_)
    refine e_if_eq (pc := 18) (tgt := 41) dX3_fits_18 (by decide) (fun _ => ?_) (fun _ => ?_)
    · refine e_aload_n (pc := 41) dX3_fits_41 rfl rfl ?_
      refine e_getR (pc := 42) dX3_fits_42 hs_X3_16 (fun r4 => ?_)
      refine e_iconst (pc := 45) dX3_fits_45 kc_0 ?_
      refine e_callV (pc := 46) (av := [.int (0 : Int32)]) (S := []) (c0 := 0) rfl rfl ok_X0_passDay ⟨Nat.le_of_ble_eq_true rfl, Nat.le_of_ble_eq_true rfl⟩ hv_X3_154 dX3_fits_46 (s_X0_passDay r4 (0 : Int32) w2) rfl rfl (Nat.le_of_ble_eq_true rfl) (fun _ w5 => ?_)
      refine e_iinc (L' := [some (.ref a0), some (.ref a1), some (.int a2), some (.int a3), some (.int (b4 + 1))]) (pc := 49) (v := 1) dX3_fits_49 (by decide) rfl kc_1 rfl ?_
      refine e_goto (pc := 52) (tgt := 3) dX3_fits_52 (by decide) ?_
      exact hk3 (b4 + 1) w5
    · refine e_aload_n (pc := 21) dX3_fits_21 rfl rfl ?_
      refine e_iload (pc := 22) dX3_fits_22 rfl ?_
      refine e_callV (pc := 24) (av := [.int b4]) (S := []) (c0 := 1) rfl rfl ok_X1_at ⟨Nat.le_of_ble_eq_true rfl, Nat.le_of_ble_eq_true rfl⟩ hv_X3_66 dX3_fits_24 (s_X1_at a1 b4 w2) rfl rfl (Nat.le_of_ble_eq_true rfl) (fun x7 w6 => ?_)
      refine e_aload_n (pc := 27) dX3_fits_27 rfl rfl ?_
      refine e_getR (pc := 28) dX3_fits_28 hs_X3_16 (fun r8 => ?_)
      refine e_iload_n (pc := 31) dX3_fits_31 rfl rfl ?_
      refine e_iload_n (pc := 32) dX3_fits_32 rfl rfl ?_
      refine e_callV (pc := 33) (av := [.int a2, .int a3]) (S := [.int x7]) (c0 := 0) rfl rfl ok_X0_toldOfBeast ⟨Nat.le_of_ble_eq_true rfl, Nat.le_of_ble_eq_true rfl⟩ hv_X3_91 dX3_fits_33 (s_X0_toldOfBeast r8 a2 a3 w6) rfl rfl (Nat.le_of_ble_eq_true rfl) (fun x10 w9 => ?_)
      refine e_icmp_eq (pc := 36) (tgt := 41) dX3_fits_36 (by decide) (fun _ => ?_) (fun _ => ?_)
      · refine e_aload_n (pc := 41) dX3_fits_41 rfl rfl ?_
        refine e_getR (pc := 42) dX3_fits_42 hs_X3_16 (fun r11 => ?_)
        refine e_iconst (pc := 45) dX3_fits_45 kc_0 ?_
        refine e_callV (pc := 46) (av := [.int (0 : Int32)]) (S := []) (c0 := 0) rfl rfl ok_X0_passDay ⟨Nat.le_of_ble_eq_true rfl, Nat.le_of_ble_eq_true rfl⟩ hv_X3_154 dX3_fits_46 (s_X0_passDay r11 (0 : Int32) w9) rfl rfl (Nat.le_of_ble_eq_true rfl) (fun _ w12 => ?_)
        refine e_iinc (L' := [some (.ref a0), some (.ref a1), some (.int a2), some (.int a3), some (.int (b4 + 1))]) (pc := 49) (v := 1) dX3_fits_49 (by decide) rfl kc_1 rfl ?_
        refine e_goto (pc := 52) (tgt := 3) dX3_fits_52 (by decide) ?_
        exact hk3 (b4 + 1) w12
      · refine e_iconst (pc := 39) dX3_fits_39 kc_0 ?_
        exact e_iret (pc := 40) dX3_fits_40 rfl (a_nb (by decide))
def f_X3_fits (a0 : Nat) (a1 : Nat) (a2 : Int32) (a3 : Int32) (w : aW) : Option (Int32 × aW) :=
  loop2 (c_X3_fits_3 a0 a1 a2 a3) a_fuel (0 : Int32) w
theorem s_X3_fits (a0 : Nat) (a1 : Nat) (a2 : Int32) (a3 : Int32) (w : aW) : Sp rvI M_X3_fits [.ref a0, .ref a1, .int a2, .int a3] w (f_X3_fits a0 a1 a2 a3 w) := by
  refine e_entry [some (.ref a0), some (.ref a1), some (.int a2), some (.int a3), none] (by decide +kernel) (Nat.le_of_ble_eq_true rfl) (fun _ => rfl) ?_
  unfold f_X3_fits
  refine e_iconst (pc := 0) dX3_fits_0 kc_0 ?_
  refine e_istore (L' := [some (.ref a0), some (.ref a1), some (.int a2), some (.int a3), some (.int (0 : Int32))]) (pc := 1) dX3_fits_1 (by decide) rfl ?_
  exact e_loop2 (L := fun b4 => [some (.ref a0), some (.ref a1), some (.int a2), some (.int a3), some (.int b4)]) (S := fun b4 => []) (fun kf hkf => t_X3_fits_3 a0 a1 a2 a3  kf hkf) _ (0 : Int32) w
def M_X3_sortsThatFit : aM := (yX3_sortsThatFit, cX3_sortsThatFit, 5, (some .int), 5, 115)
theorem ok_X3_sortsThatFit : a_okM M_X3_sortsThatFit 2 := ⟨⟨by decide +kernel, by decide +kernel⟩, by decide +kernel, a_in 590 (by decide +kernel) rfl, a_in 76 (by decide +kernel) rfl⟩
theorem dX3_sortsThatFit_0 : decode M_X3_sortsThatFit.2.1 0 = .ok (.iconst 0, 1) := by decide +kernel
theorem dX3_sortsThatFit_1 : decode M_X3_sortsThatFit.2.1 1 = .ok (.istore_n 3, 1) := by decide +kernel
theorem dX3_sortsThatFit_2 : decode M_X3_sortsThatFit.2.1 2 = .ok (.iconst 0, 1) := by decide +kernel
theorem dX3_sortsThatFit_3 : decode M_X3_sortsThatFit.2.1 3 = .ok (.istore 4, 2) := by decide +kernel
theorem dX3_sortsThatFit_5 : decode M_X3_sortsThatFit.2.1 5 = .ok (.iload 4, 2) := by decide +kernel
theorem dX3_sortsThatFit_7 : decode M_X3_sortsThatFit.2.1 7 = .ok (.bipush 8, 2) := by decide +kernel
theorem dX3_sortsThatFit_9 : decode M_X3_sortsThatFit.2.1 9 = .ok (.if_icmp .ge 41, 3) := by decide +kernel
theorem dX3_sortsThatFit_12 : decode M_X3_sortsThatFit.2.1 12 = .ok (.aload_n 0, 1) := by decide +kernel
theorem dX3_sortsThatFit_13 : decode M_X3_sortsThatFit.2.1 13 = .ok (.invokevirtual 56, 3) := by decide +kernel
theorem dX3_sortsThatFit_16 : decode M_X3_sortsThatFit.2.1 16 = .ok (.aload_n 0, 1) := by decide +kernel
theorem dX3_sortsThatFit_17 : decode M_X3_sortsThatFit.2.1 17 = .ok (.getfield 16, 3) := by decide +kernel
theorem dX3_sortsThatFit_20 : decode M_X3_sortsThatFit.2.1 20 = .ok (.getfield 342, 3) := by decide +kernel
theorem dX3_sortsThatFit_23 : decode M_X3_sortsThatFit.2.1 23 = .ok (.iload_n 2, 1) := by decide +kernel
theorem dX3_sortsThatFit_24 : decode M_X3_sortsThatFit.2.1 24 = .ok (.iload 4, 2) := by decide +kernel
theorem dX3_sortsThatFit_26 : decode M_X3_sortsThatFit.2.1 26 = .ok (.iastore, 1) := by decide +kernel
theorem dX3_sortsThatFit_27 : decode M_X3_sortsThatFit.2.1 27 = .ok (.aload_n 0, 1) := by decide +kernel
theorem dX3_sortsThatFit_28 : decode M_X3_sortsThatFit.2.1 28 = .ok (.aload_n 1, 1) := by decide +kernel
theorem dX3_sortsThatFit_29 : decode M_X3_sortsThatFit.2.1 29 = .ok (.iload_n 2, 1) := by decide +kernel
theorem dX3_sortsThatFit_30 : decode M_X3_sortsThatFit.2.1 30 = .ok (.iconst 2, 1) := by decide +kernel
theorem dX3_sortsThatFit_31 : decode M_X3_sortsThatFit.2.1 31 = .ok (.invokevirtual 239, 3) := by decide +kernel
theorem dX3_sortsThatFit_34 : decode M_X3_sortsThatFit.2.1 34 = .ok (.ifCond .eq 10, 3) := by decide +kernel
theorem dX3_sortsThatFit_37 : decode M_X3_sortsThatFit.2.1 37 = .ok (.iload_n 3, 1) := by decide +kernel
theorem dX3_sortsThatFit_38 : decode M_X3_sortsThatFit.2.1 38 = .ok (.iconst 1, 1) := by decide +kernel
theorem dX3_sortsThatFit_39 : decode M_X3_sortsThatFit.2.1 39 = .ok (.iload 4, 2) := by decide +kernel
theorem dX3_sortsThatFit_41 : decode M_X3_sortsThatFit.2.1 41 = .ok (.ishl, 1) := by decide +kernel
theorem dX3_sortsThatFit_42 : decode M_X3_sortsThatFit.2.1 42 = .ok (.ior, 1) := by decide +kernel
theorem dX3_sortsThatFit_43 : decode M_X3_sortsThatFit.2.1 43 = .ok (.istore_n 3, 1) := by decide +kernel
theorem dX3_sortsThatFit_44 : decode M_X3_sortsThatFit.2.1 44 = .ok (.iinc 4 1, 3) := by decide +kernel
theorem dX3_sortsThatFit_47 : decode M_X3_sortsThatFit.2.1 47 = .ok (.goto (-42), 3) := by decide +kernel
theorem dX3_sortsThatFit_50 : decode M_X3_sortsThatFit.2.1 50 = .ok (.iload_n 3, 1) := by decide +kernel
theorem dX3_sortsThatFit_51 : decode M_X3_sortsThatFit.2.1 51 = .ok (.ireturn, 1) := by decide +kernel
theorem hs_X3_342 : a_fs RX3 342 0 4 := ⟨RX0, TX0, 13, rfl, tin_X0, by decide, a_in 114 (by decide +kernel) rfl⟩
theorem hv_X3_239 : a_okV RX3 M_X3_fits 239 := ⟨a_in 591 (by decide +kernel) rfl, a_in 593 (by decide +kernel) rfl, a_in 16 (by decide +kernel) rfl⟩
def c_X3_sortsThatFit_5 (a0 : Nat) (a1 : Nat) (a2 : Int32) (k5 : Int32 → Int32 → aW → Option (Int32 × aW)) (b3 : Int32) (b4 : Int32) (w : aW) : Option (Int32 × aW) :=
  if (8 : Int32) ≤ b4 then
    some (b3, w)
  else
    cV 2 w a0 (bk (f_X3_think a0 w) fun _ w1 =>
    (gR 2 w1 a0 1).bind fun r2 =>
    (gR 0 w1 r2 4).bind fun r3 =>
    (sA w1 r3 a2 b4).bind fun w4 =>
    cV 2 w4 a0 (bk (f_X3_fits a0 a1 a2 (2 : Int32) w4) fun x6 w5 =>
    if x6 = (0 : Int32) then
      k5 b3 (b4 + 1) w5
    else
      k5 (b3 ||| ((1 : Int32) <<< (b4 &&& 31))) (b4 + 1) w5))
theorem t_X3_sortsThatFit_5 (a0 : Nat) (a1 : Nat) (a2 : Int32) (k5 : Int32 → Int32 → aW → Option (Int32 × aW)) (hk5 : ∀ (b3 : Int32) (b4 : Int32) (w : aW), Ev rvI M_X3_sortsThatFit 5 [some (.ref a0), some (.ref a1), some (.int a2), some (.int b3), some (.int b4)] [] w (k5 b3 b4 w)) (b3 : Int32) (b4 : Int32) (w : aW) : Ev rvI M_X3_sortsThatFit 5 [some (.ref a0), some (.ref a1), some (.int a2), some (.int b3), some (.int b4)] [] w (c_X3_sortsThatFit_5 a0 a1 a2 k5 b3 b4 w) := by
  unfold c_X3_sortsThatFit_5
  refine e_iload (pc := 5) dX3_sortsThatFit_5 rfl ?_
  refine e_bipush (pc := 7) dX3_sortsThatFit_7 kb_8 ?_
  refine e_icmp_ge (pc := 9) (tgt := 50) dX3_sortsThatFit_9 (by decide) (fun _ => ?_) (fun _ => ?_)
  · refine e_iload_n (pc := 50) dX3_sortsThatFit_50 rfl rfl ?_
    exact e_iret (pc := 51) dX3_sortsThatFit_51 rfl rfl
  · refine e_aload_n (pc := 12) dX3_sortsThatFit_12 rfl rfl ?_
    refine e_callV (pc := 13) (av := []) (S := []) (c0 := 2) rfl rfl ok_X3_think ⟨Nat.le_of_ble_eq_true rfl, Nat.le_of_ble_eq_true rfl⟩ hv_X3_56 dX3_sortsThatFit_13 (s_X3_think a0 w) rfl rfl (Nat.le_of_ble_eq_true rfl) (fun _ w1 => ?_)
    refine e_aload_n (pc := 16) dX3_sortsThatFit_16 rfl rfl ?_
    refine e_getR (pc := 17) dX3_sortsThatFit_17 hs_X3_16 (fun r2 => ?_)
    refine e_getR (pc := 20) dX3_sortsThatFit_20 hs_X3_342 (fun r3 => ?_)
    refine e_iload_n (pc := 23) dX3_sortsThatFit_23 rfl rfl ?_
    refine e_iload (pc := 24) dX3_sortsThatFit_24 rfl ?_
    refine e_iast (pc := 26) dX3_sortsThatFit_26 (fun w4 => ?_)
    refine e_aload_n (pc := 27) dX3_sortsThatFit_27 rfl rfl ?_
    refine e_aload_n (pc := 28) dX3_sortsThatFit_28 rfl rfl ?_
    refine e_iload_n (pc := 29) dX3_sortsThatFit_29 rfl rfl ?_
    refine e_iconst (pc := 30) dX3_sortsThatFit_30 kc_2 ?_
    refine e_callV (pc := 31) (av := [.ref a1, .int a2, .int (2 : Int32)]) (S := []) (c0 := 2) rfl rfl ok_X3_fits ⟨Nat.le_of_ble_eq_true rfl, Nat.le_of_ble_eq_true rfl⟩ hv_X3_239 dX3_sortsThatFit_31 (s_X3_fits a0 a1 a2 (2 : Int32) w4) rfl rfl (Nat.le_of_ble_eq_true rfl) (fun x6 w5 => ?_)
    refine e_if_eq (pc := 34) (tgt := 44) dX3_sortsThatFit_34 (by decide) (fun _ => ?_) (fun _ => ?_)
    · refine e_iinc (L' := [some (.ref a0), some (.ref a1), some (.int a2), some (.int b3), some (.int (b4 + 1))]) (pc := 44) (v := 1) dX3_sortsThatFit_44 (by decide) rfl kc_1 rfl ?_
      refine e_goto (pc := 47) (tgt := 5) dX3_sortsThatFit_47 (by decide) ?_
      exact hk5 b3 (b4 + 1) w5
    · refine e_iload_n (pc := 37) dX3_sortsThatFit_37 rfl rfl ?_
      refine e_iconst (pc := 38) dX3_sortsThatFit_38 kc_1 ?_
      refine e_iload (pc := 39) dX3_sortsThatFit_39 rfl ?_
      refine e_ishl (pc := 41) dX3_sortsThatFit_41 ?_
      refine e_ior (pc := 42) dX3_sortsThatFit_42 ?_
      refine e_istore_n (L' := [some (.ref a0), some (.ref a1), some (.int a2), some (.int (b3 ||| ((1 : Int32) <<< (b4 &&& 31)))), some (.int b4)]) (pc := 43) dX3_sortsThatFit_43 rfl (by decide) rfl ?_
      refine e_iinc (L' := [some (.ref a0), some (.ref a1), some (.int a2), some (.int (b3 ||| ((1 : Int32) <<< (b4 &&& 31)))), some (.int (b4 + 1))]) (pc := 44) (v := 1) dX3_sortsThatFit_44 (by decide) rfl kc_1 rfl ?_
      refine e_goto (pc := 47) (tgt := 5) dX3_sortsThatFit_47 (by decide) ?_
      exact hk5 (b3 ||| ((1 : Int32) <<< (b4 &&& 31))) (b4 + 1) w5
def f_X3_sortsThatFit (a0 : Nat) (a1 : Nat) (a2 : Int32) (w : aW) : Option (Int32 × aW) :=
  loop3 (c_X3_sortsThatFit_5 a0 a1 a2) a_fuel (0 : Int32) (0 : Int32) w
theorem s_X3_sortsThatFit (a0 : Nat) (a1 : Nat) (a2 : Int32) (w : aW) : Sp rvI M_X3_sortsThatFit [.ref a0, .ref a1, .int a2] w (f_X3_sortsThatFit a0 a1 a2 w) := by
  refine e_entry [some (.ref a0), some (.ref a1), some (.int a2), none, none] (by decide +kernel) (Nat.le_of_ble_eq_true rfl) (fun _ => rfl) ?_
  unfold f_X3_sortsThatFit
  refine e_iconst (pc := 0) dX3_sortsThatFit_0 kc_0 ?_
  refine e_istore_n (L' := [some (.ref a0), some (.ref a1), some (.int a2), some (.int (0 : Int32)), none]) (pc := 1) dX3_sortsThatFit_1 rfl (by decide) rfl ?_
  refine e_iconst (pc := 2) dX3_sortsThatFit_2 kc_0 ?_
  refine e_istore (L' := [some (.ref a0), some (.ref a1), some (.int a2), some (.int (0 : Int32)), some (.int (0 : Int32))]) (pc := 3) dX3_sortsThatFit_3 (by decide) rfl ?_
  exact e_loop3 (L := fun b3 b4 => [some (.ref a0), some (.ref a1), some (.int a2), some (.int b3), some (.int b4)]) (S := fun b3 b4 => []) (fun kf hkf => t_X3_sortsThatFit_5 a0 a1 a2  kf hkf) _ (0 : Int32) (0 : Int32) w
