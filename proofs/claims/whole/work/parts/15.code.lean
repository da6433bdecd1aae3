/-! the decompiled methods: each f_ is what its bytecode does to a world; each s_ ties it to the machine. Written by program (wip/gen/gen.py). -/
def M_X3_figuresThatFit : aM := (yX3_figuresThatFit, cX3_figuresThatFit, 5, (some .int), 5, 115)
theorem ok_X3_figuresThatFit : a_okM M_X3_figuresThatFit 2 := ⟨⟨by decide +kernel, by decide +kernel⟩, by decide +kernel, a_in 603 (by decide +kernel) rfl, a_in 76 (by decide +kernel) rfl⟩
theorem dX3_figuresThatFit_0 : decode M_X3_figuresThatFit.2.1 0 = .ok (.iconst 0, 1) := by decide +kernel
theorem dX3_figuresThatFit_1 : decode M_X3_figuresThatFit.2.1 1 = .ok (.istore_n 3, 1) := by decide +kernel
theorem dX3_figuresThatFit_2 : decode M_X3_figuresThatFit.2.1 2 = .ok (.iconst 0, 1) := by decide +kernel
theorem dX3_figuresThatFit_3 : decode M_X3_figuresThatFit.2.1 3 = .ok (.istore 4, 2) := by decide +kernel
theorem dX3_figuresThatFit_5 : decode M_X3_figuresThatFit.2.1 5 = .ok (.iload 4, 2) := by decide +kernel
theorem dX3_figuresThatFit_7 : decode M_X3_figuresThatFit.2.1 7 = .ok (.bipush 10, 2) := by decide +kernel
theorem dX3_figuresThatFit_9 : decode M_X3_figuresThatFit.2.1 9 = .ok (.if_icmp .ge 41, 3) := by decide +kernel
theorem dX3_figuresThatFit_12 : decode M_X3_figuresThatFit.2.1 12 = .ok (.aload_n 0, 1) := by decide +kernel
theorem dX3_figuresThatFit_13 : decode M_X3_figuresThatFit.2.1 13 = .ok (.invokevirtual 56, 3) := by decide +kernel
theorem dX3_figuresThatFit_16 : decode M_X3_figuresThatFit.2.1 16 = .ok (.aload_n 0, 1) := by decide +kernel
theorem dX3_figuresThatFit_17 : decode M_X3_figuresThatFit.2.1 17 = .ok (.getfield 16, 3) := by decide +kernel
theorem dX3_figuresThatFit_20 : decode M_X3_figuresThatFit.2.1 20 = .ok (.getfield 344, 3) := by decide +kernel
theorem dX3_figuresThatFit_23 : decode M_X3_figuresThatFit.2.1 23 = .ok (.iload_n 2, 1) := by decide +kernel
theorem dX3_figuresThatFit_24 : decode M_X3_figuresThatFit.2.1 24 = .ok (.iload 4, 2) := by decide +kernel
theorem dX3_figuresThatFit_26 : decode M_X3_figuresThatFit.2.1 26 = .ok (.iastore, 1) := by decide +kernel
theorem dX3_figuresThatFit_27 : decode M_X3_figuresThatFit.2.1 27 = .ok (.aload_n 0, 1) := by decide +kernel
theorem dX3_figuresThatFit_28 : decode M_X3_figuresThatFit.2.1 28 = .ok (.aload_n 1, 1) := by decide +kernel
theorem dX3_figuresThatFit_29 : decode M_X3_figuresThatFit.2.1 29 = .ok (.iload_n 2, 1) := by decide +kernel
theorem dX3_figuresThatFit_30 : decode M_X3_figuresThatFit.2.1 30 = .ok (.iconst 2, 1) := by decide +kernel
theorem dX3_figuresThatFit_31 : decode M_X3_figuresThatFit.2.1 31 = .ok (.invokevirtual 239, 3) := by decide +kernel
theorem dX3_figuresThatFit_34 : decode M_X3_figuresThatFit.2.1 34 = .ok (.ifCond .eq 10, 3) := by decide +kernel
theorem dX3_figuresThatFit_37 : decode M_X3_figuresThatFit.2.1 37 = .ok (.iload_n 3, 1) := by decide +kernel
theorem dX3_figuresThatFit_38 : decode M_X3_figuresThatFit.2.1 38 = .ok (.iconst 1, 1) := by decide +kernel
theorem dX3_figuresThatFit_39 : decode M_X3_figuresThatFit.2.1 39 = .ok (.iload 4, 2) := by decide +kernel
theorem dX3_figuresThatFit_41 : decode M_X3_figuresThatFit.2.1 41 = .ok (.ishl, 1) := by decide +kernel
theorem dX3_figuresThatFit_42 : decode M_X3_figuresThatFit.2.1 42 = .ok (.ior, 1) := by decide +kernel
theorem dX3_figuresThatFit_43 : decode M_X3_figuresThatFit.2.1 43 = .ok (.istore_n 3, 1) := by decide +kernel
theorem dX3_figuresThatFit_44 : decode M_X3_figuresThatFit.2.1 44 = .ok (.iinc 4 1, 3) := by decide +kernel
theorem dX3_figuresThatFit_47 : decode M_X3_figuresThatFit.2.1 47 = .ok (.goto (-42), 3) := by decide +kernel
theorem dX3_figuresThatFit_50 : decode M_X3_figuresThatFit.2.1 50 = .ok (.iload_n 3, 1) := by decide +kernel
theorem dX3_figuresThatFit_51 : decode M_X3_figuresThatFit.2.1 51 = .ok (.ireturn, 1) := by decide +kernel
theorem hs_X3_344 : a_fs RX3 344 0 5 := ⟨RX0, TX0, 13, rfl, tin_X0, by decide, a_in 116 (by decide +kernel) rfl⟩
def c_X3_figuresThatFit_5 (a0 : Nat) (a1 : Nat) (a2 : Int32) (k5 : Int32 → Int32 → aW → Option (Int32 × aW)) (b3 : Int32) (b4 : Int32) (w : aW) : Option (Int32 × aW) :=
  if (10 : Int32) ≤ b4 then
    some (b3, w)
  else
    cV 2 w a0 (bk (f_X3_think a0 w) fun _ w1 =>
    (gR 2 w1 a0 1).bind fun r2 =>
    (gR 0 w1 r2 5).bind fun r3 =>
    (sA w1 r3 a2 b4).bind fun w4 =>
    cV 2 w4 a0 (bk (f_X3_fits a0 a1 a2 (2 : Int32) w4) fun x6 w5 =>
    if x6 = (0 : Int32) then
      k5 b3 (b4 + 1) w5
    else
      k5 (b3 ||| ((1 : Int32) <<< (b4 &&& 31))) (b4 + 1) w5))
theorem t_X3_figuresThatFit_5 (a0 : Nat) (a1 : Nat) (a2 : Int32) (k5 : Int32 → Int32 → aW → Option (Int32 × aW)) (hk5 : ∀ (b3 : Int32) (b4 : Int32) (w : aW), Ev rvI M_X3_figuresThatFit 5 [some (.ref a0), some (.ref a1), some (.int a2), some (.int b3), some (.int b4)] [] w (k5 b3 b4 w)) (b3 : Int32) (b4 : Int32) (w : aW) : Ev rvI M_X3_figuresThatFit 5 [some (.ref a0), some (.ref a1), some (.int a2), some (.int b3), some (.int b4)] [] w (c_X3_figuresThatFit_5 a0 a1 a2 k5 b3 b4 w) := by
  unfold c_X3_figuresThatFit_5
  refine e_iload (pc := 5) dX3_figuresThatFit_5 rfl ?_
  refine e_bipush (pc := 7) dX3_figuresThatFit_7 kb_10 ?_
  refine e_icmp_ge (pc := 9) (tgt := 50) dX3_figuresThatFit_9 (by decide) (fun _ => ?_) (fun _ => ?_)
  · refine e_iload_n (pc := 50) dX3_figuresThatFit_50 rfl rfl ?_
    exact e_iret (pc := 51) dX3_figuresThatFit_51 rfl rfl
  · refine e_aload_n (pc := 12) dX3_figuresThatFit_12 rfl rfl ?_
    refine e_callV (pc := 13) (av := []) (S := []) (c0 := 2) rfl rfl ok_X3_think ⟨Nat.le_of_ble_eq_true rfl, Nat.le_of_ble_eq_true rfl⟩ hv_X3_56 dX3_figuresThatFit_13 (s_X3_think a0 w) rfl rfl (Nat.le_of_ble_eq_true rfl) (fun _ w1 => ?_)
    refine e_aload_n (pc := 16) dX3_figuresThatFit_16 rfl rfl ?_
    refine e_getR (pc := 17) dX3_figuresThatFit_17 hs_X3_16 (fun r2 => ?_)
    refine e_getR (pc := 20) dX3_figuresThatFit_20 hs_X3_344 (fun r3 => ?_)
    refine e_iload_n (pc := 23) dX3_figuresThatFit_23 rfl rfl ?_
    refine e_iload (pc := 24) dX3_figuresThatFit_24 rfl ?_
    refine e_iast (pc := 26) dX3_figuresThatFit_26 (fun w4 => ?_)
    refine e_aload_n (pc := 27) dX3_figuresThatFit_27 rfl rfl ?_
    refine e_aload_n (pc := 28) dX3_figuresThatFit_28 rfl rfl ?_
    refine e_iload_n (pc := 29) dX3_figuresThatFit_29 rfl rfl ?_
    refine e_iconst (pc := 30) dX3_figuresThatFit_30 kc_2 ?_
    refine e_callV (pc := 31) (av := [.ref a1, .int a2, .int (2 : Int32)]) (S := []) (c0 := 2) rfl rfl ok_X3_fits ⟨Nat.le_of_ble_eq_true rfl, Nat.le_of_ble_eq_true rfl⟩ hv_X3_239 dX3_figuresThatFit_31 (s_X3_fits a0 a1 a2 (2 : Int32) w4) rfl rfl (Nat.le_of_ble_eq_true rfl) (fun x6 w5 => ?_)
    refine e_if_eq (pc := 34) (tgt := 44) dX3_figuresThatFit_34 (by decide) (fun _ => ?_) (fun _ => ?_)
    · refine e_iinc (L' := [some (.ref a0), some (.ref a1), some (.int a2), some (.int b3), some (.int (b4 + 1))]) (pc := 44) (v := 1) dX3_figuresThatFit_44 (by decide) rfl kc_1 rfl ?_
      refine e_goto (pc := 47) (tgt := 5) dX3_figuresThatFit_47 (by decide) ?_
      exact hk5 b3 (b4 + 1) w5
    · refine e_iload_n (pc := 37) dX3_figuresThatFit_37 rfl rfl ?_
      refine e_iconst (pc := 38) dX3_figuresThatFit_38 kc_1 ?_
      refine e_iload (pc := 39) dX3_figuresThatFit_39 rfl ?_
      refine e_ishl (pc := 41) dX3_figuresThatFit_41 ?_
      refine e_ior (pc := 42) dX3_figuresThatFit_42 ?_
      refine e_istore_n (L' := [some (.ref a0), some (.ref a1), some (.int a2), some (.int (b3 ||| ((1 : Int32) <<< (b4 &&& 31)))), some (.int b4)]) (pc := 43) dX3_figuresThatFit_43 rfl (by decide) rfl ?_
      refine e_iinc (L' := [some (.ref a0), some (.ref a1), some (.int a2), some (.int (b3 ||| ((1 : Int32) <<< (b4 &&& 31)))), some (.int (b4 + 1))]) (pc := 44) (v := 1) dX3_figuresThatFit_44 (by decide) rfl kc_1 rfl ?_
      refine e_goto (pc := 47) (tgt := 5) dX3_figuresThatFit_47 (by decide) ?_
      exact hk5 (b3 ||| ((1 : Int32) <<< (b4 &&& 31))) (b4 + 1) w5
def f_X3_figuresThatFit (a0 : Nat) (a1 : Nat) (a2 : Int32) (w : aW) : Option (Int32 × aW) :=
  loop3 (c_X3_figuresThatFit_5 a0 a1 a2) a_fuel (0 : Int32) (0 : Int32) w
theorem s_X3_figuresThatFit (a0 : Nat) (a1 : Nat) (a2 : Int32) (w : aW) : Sp rvI M_X3_figuresThatFit [.ref a0, .ref a1, .int a2] w (f_X3_figuresThatFit a0 a1 a2 w) := by
  refine e_entry [some (.ref a0), some (.ref a1), some (.int a2), none, none] (by decide +kernel) (Nat.le_of_ble_eq_true rfl) (fun _ => rfl) ?_
  unfold f_X3_figuresThatFit
  refine e_iconst (pc := 0) dX3_figuresThatFit_0 kc_0 ?_
  refine e_istore_n (L' := [some (.ref a0), some (.ref a1), some (.int a2), some (.int (0 : Int32)), none]) (pc := 1) dX3_figuresThatFit_1 rfl (by decide) rfl ?_
  refine e_iconst (pc := 2) dX3_figuresThatFit_2 kc_0 ?_
  refine e_istore (L' := [some (.ref a0), some (.ref a1), some (.int a2), some (.int (0 : Int32)), some (.int (0 : Int32))]) (pc := 3) dX3_figuresThatFit_3 (by decide) rfl ?_
  exact e_loop3 (L := fun b3 b4 => [some (.ref a0), some (.ref a1), some (.int a2), some (.int b3), some (.int b4)]) (S := fun b3 b4 => []) (fun kf hkf => t_X3_figuresThatFit_5 a0 a1 a2  kf hkf) _ (0 : Int32) (0 : Int32) w
def M_X3_whatIs : aM := (yX3_whatIs, cX3_whatIs, 6, (some .int), 6, 139)
theorem ok_X3_whatIs : a_okM M_X3_whatIs 3 := ⟨⟨by decide +kernel, by decide +kernel⟩, by decide +kernel, a_in 582 (by decide +kernel) rfl, a_in 76 (by decide +kernel) rfl⟩
theorem dX3_whatIs_0 : decode M_X3_whatIs.2.1 0 = .ok (.aload_n 0, 1) := by decide +kernel
theorem dX3_whatIs_1 : decode M_X3_whatIs.2.1 1 = .ok (.iload_n 1, 1) := by decide +kernel
theorem dX3_whatIs_2 : decode M_X3_whatIs.2.1 2 = .ok (.invokevirtual 40, 3) := by decide +kernel
theorem dX3_whatIs_5 : decode M_X3_whatIs.2.1 5 = .ok (.astore 4, 2) := by decide +kernel
theorem dX3_whatIs_7 : decode M_X3_whatIs.2.1 7 = .ok (.aload 4, 2) := by decide +kernel
theorem dX3_whatIs_9 : decode M_X3_whatIs.2.1 9 = .ok (.ifnull 23, 3) := by decide +kernel
theorem dX3_whatIs_12 : decode M_X3_whatIs.2.1 12 = .ok (.aload_n 0, 1) := by decide +kernel
theorem dX3_whatIs_13 : decode M_X3_whatIs.2.1 13 = .ok (.getfield 10, 3) := by decide +kernel
theorem dX3_whatIs_16 : decode M_X3_whatIs.2.1 16 = .ok (.iload_n 2, 1) := by decide +kernel
theorem dX3_whatIs_17 : decode M_X3_whatIs.2.1 17 = .ok (.invokevirtual 83, 3) := by decide +kernel
theorem dX3_whatIs_20 : decode M_X3_whatIs.2.1 20 = .ok (.ifCond .eq 12, 3) := by decide +kernel
theorem dX3_whatIs_23 : decode M_X3_whatIs.2.1 23 = .ok (.iload_n 3, 1) := by decide +kernel
theorem dX3_whatIs_24 : decode M_X3_whatIs.2.1 24 = .ok (.iconst 0, 1) := by decide +kernel
theorem dX3_whatIs_25 : decode M_X3_whatIs.2.1 25 = .ok (.iconst 1, 1) := by decide +kernel
theorem dX3_whatIs_26 : decode M_X3_whatIs.2.1 26 = .ok (.invokestatic 87, 3) := by decide +kernel
theorem dX3_whatIs_29 : decode M_X3_whatIs.2.1 29 = .ok (.ifCond .ne 5, 3) := by decide +kernel
theorem dX3_whatIs_32 : decode M_X3_whatIs.2.1 32 = .ok (.iconst (-1), 1) := by decide +kernel
theorem dX3_whatIs_33 : decode M_X3_whatIs.2.1 33 = .ok (.ireturn, 1) := by decide +kernel
theorem dX3_whatIs_34 : decode M_X3_whatIs.2.1 34 = .ok (.aload 4, 2) := by decide +kernel
theorem dX3_whatIs_36 : decode M_X3_whatIs.2.1 36 = .ok (.invokevirtual 223, 3) := by decide +kernel
theorem dX3_whatIs_39 : decode M_X3_whatIs.2.1 39 = .ok (.istore 5, 2) := by decide +kernel
theorem dX3_whatIs_41 : decode M_X3_whatIs.2.1 41 = .ok (.iload 5, 2) := by decide +kernel
theorem dX3_whatIs_43 : decode M_X3_whatIs.2.1 43 = .ok (.ifCond .eq 6, 3) := by decide +kernel
theorem dX3_whatIs_46 : decode M_X3_whatIs.2.1 46 = .ok (.iload 5, 2) := by decide +kernel
theorem dX3_whatIs_48 : decode M_X3_whatIs.2.1 48 = .ok (.ireturn, 1) := by decide +kernel
theorem dX3_whatIs_49 : decode M_X3_whatIs.2.1 49 = .ok (.iload_n 3, 1) := by decide +kernel
theorem dX3_whatIs_50 : decode M_X3_whatIs.2.1 50 = .ok (.ifCond .ne 13, 3) := by decide +kernel
theorem dX3_whatIs_53 : decode M_X3_whatIs.2.1 53 = .ok (.aload_n 0, 1) := by decide +kernel
theorem dX3_whatIs_54 : decode M_X3_whatIs.2.1 54 = .ok (.aload 4, 2) := by decide +kernel
theorem dX3_whatIs_56 : decode M_X3_whatIs.2.1 56 = .ok (.iload_n 2, 1) := by decide +kernel
theorem dX3_whatIs_57 : decode M_X3_whatIs.2.1 57 = .ok (.invokevirtual 226, 3) := by decide +kernel
theorem dX3_whatIs_60 : decode M_X3_whatIs.2.1 60 = .ok (.goto 10, 3) := by decide +kernel
theorem dX3_whatIs_63 : decode M_X3_whatIs.2.1 63 = .ok (.aload_n 0, 1) := by decide +kernel
theorem dX3_whatIs_64 : decode M_X3_whatIs.2.1 64 = .ok (.aload 4, 2) := by decide +kernel
theorem dX3_whatIs_66 : decode M_X3_whatIs.2.1 66 = .ok (.iload_n 2, 1) := by decide +kernel
theorem dX3_whatIs_67 : decode M_X3_whatIs.2.1 67 = .ok (.invokevirtual 230, 3) := by decide +kernel
theorem dX3_whatIs_70 : decode M_X3_whatIs.2.1 70 = .ok (.ireturn, 1) := by decide +kernel
theorem hv_X3_223 : a_okV RX3 M_X1_rowRefusal 223 := ⟨a_in 583 (by decide +kernel) rfl, a_in 584 (by decide +kernel) rfl, a_in 585 (by decide +kernel) rfl⟩
theorem hv_X3_230 : a_okV RX3 M_X3_figuresThatFit 230 := ⟨a_in 600 (by decide +kernel) rfl, a_in 602 (by decide +kernel) rfl, a_in 17 (by decide +kernel) rfl⟩
theorem hv_X3_226 : a_okV RX3 M_X3_sortsThatFit 226 := ⟨a_in 587 (by decide +kernel) rfl, a_in 589 (by decide +kernel) rfl, a_in 15 (by decide +kernel) rfl⟩
def f_X3_whatIs (a0 : Nat) (a1 : Int32) (a2 : Int32) (a3 : Int32) (w : aW) : Option (Int32 × aW) :=
  cV 2 w a0 (bk (f_X3_shelfAt a0 a1 w) fun o2 w1 =>
  oc o2 (
    some ((-1 : Int32), w1)) fun r3 =>
  (gR 2 w1 a0 0).bind fun r4 =>
  cV 0 w1 r4 (bk (f_X0_hasBeast r4 a2 w1) fun x6 w5 =>
  if x6 = (0 : Int32) then
    some ((-1 : Int32), w5)
  else
    bk (f_X3_within a3 (0 : Int32) (1 : Int32) w5) fun x8 w7 =>
    if ¬ x8 = (0 : Int32) then
      cV 1 w7 r3 (bk (f_X1_rowRefusal r3 w7) fun x10 w9 =>
      if x10 = (0 : Int32) then
        if ¬ a3 = (0 : Int32) then
          cV 2 w9 a0 (bk (f_X3_figuresThatFit a0 r3 a2 w9) fun x12 w11 =>
          some (x12, w11))
        else
          cV 2 w9 a0 (bk (f_X3_sortsThatFit a0 r3 a2 w9) fun x14 w13 =>
          some (x14, w13))
      else
        some (x10, w9))
    else
      some ((-1 : Int32), w7)))
theorem s_X3_whatIs (a0 : Nat) (a1 : Int32) (a2 : Int32) (a3 : Int32) (w : aW) : Sp rvI M_X3_whatIs [.ref a0, .int a1, .int a2, .int a3] w (f_X3_whatIs a0 a1 a2 a3 w) := by
  refine e_entry [some (.ref a0), some (.int a1), some (.int a2), some (.int a3), none, none] (by decide +kernel) (Nat.le_of_ble_eq_true rfl) (fun _ => rfl) ?_
  unfold f_X3_whatIs
  refine e_aload_n (pc := 0) dX3_whatIs_0 rfl rfl ?_
  refine e_iload_n (pc := 1) dX3_whatIs_1 rfl rfl ?_
  refine e_callV (pc := 2) (av := [.int a1]) (S := []) (c0 := 2) rfl rfl ok_X3_shelfAt ⟨Nat.le_of_ble_eq_true rfl, Nat.le_of_ble_eq_true rfl⟩ hv_X3_40 dX3_whatIs_2 (s_X3_shelfAt a0 a1 w) rfl rfl (Nat.le_of_ble_eq_true rfl) (fun o2 w1 => ?_)
  refine e_oc (fun _ => ?_) (fun r3 _ => ?_)
  · refine e_astoreN (L' := [some (.ref a0), some (.int a1), some (.int a2), some (.int a3), some (.null), none]) (pc := 5) dX3_whatIs_5 (by decide) rfl ?_
    refine e_aloadN (pc := 7) dX3_whatIs_7 rfl ?_
    refine e_ifnullN (pc := 9) (tgt := 32) dX3_whatIs_9 (by decide) ?_
    refine e_iconst (pc := 32) dX3_whatIs_32 kc_m1 ?_
    exact e_iret (pc := 33) dX3_whatIs_33 rfl rfl
  · refine e_astore (L' := [some (.ref a0), some (.int a1), some (.int a2), some (.int a3), some (.ref r3), none]) (pc := 5) dX3_whatIs_5 (by decide) rfl ?_
    refine e_aload (pc := 7) dX3_whatIs_7 rfl ?_
    refine e_ifnull (pc := 9) dX3_whatIs_9 ?_
    refine e_aload_n (pc := 12) dX3_whatIs_12 rfl rfl ?_
    refine e_getR (pc := 13) dX3_whatIs_13 hs_X3_10 (fun r4 => ?_)
    refine e_iload_n (pc := 16) dX3_whatIs_16 rfl rfl ?_
    refine e_callV (pc := 17) (av := [.int a2]) (S := []) (c0 := 0) rfl rfl ok_X0_hasBeast ⟨Nat.le_of_ble_eq_true rfl, Nat.le_of_ble_eq_true rfl⟩ hv_X3_83 dX3_whatIs_17 (s_X0_hasBeast r4 a2 w1) rfl rfl (Nat.le_of_ble_eq_true rfl) (fun x6 w5 => ?_)
    refine e_if_eq (pc := 20) (tgt := 32) dX3_whatIs_20 (by decide) (fun _ => ?_) (fun _ => ?_)
    · refine e_iconst (pc := 32) dX3_whatIs_32 kc_m1 ?_
      exact e_iret (pc := 33) dX3_whatIs_33 rfl rfl
    · refine e_iload_n (pc := 23) dX3_whatIs_23 rfl rfl ?_
      refine e_iconst (pc := 24) dX3_whatIs_24 kc_0 ?_
      refine e_iconst (pc := 25) dX3_whatIs_25 kc_1 ?_
      refine e_callS (pc := 26) (av := [.int a3, .int (0 : Int32), .int (1 : Int32)]) (S := []) ok_X3_within ⟨Nat.le_of_ble_eq_true rfl, Nat.le_of_ble_eq_true rfl⟩ ht_X3_87 dX3_whatIs_26 (s_X3_within a3 (0 : Int32) (1 : Int32) w5) rfl rfl (Nat.le_of_ble_eq_true rfl) (fun x8 w7 => ?_)
      refine e_if_ne (pc := 29) (tgt := 34) dX3_whatIs_29 (by decide) (fun _ => ?_) (fun _ => ?_)
      · refine e_aload (pc := 34) dX3_whatIs_34 rfl ?_
        refine e_callV (pc := 36) (av := []) (S := []) (c0 := 1) rfl rfl ok_X1_rowRefusal ⟨Nat.le_of_ble_eq_true rfl, Nat.le_of_ble_eq_true rfl⟩ hv_X3_223 dX3_whatIs_36 (s_X1_rowRefusal r3 w7) rfl rfl (Nat.le_of_ble_eq_true rfl) (fun x10 w9 => ?_)
        refine e_istore (L' := [some (.ref a0), some (.int a1), some (.int a2), some (.int a3), some (.ref r3), some (.int x10)]) (pc := 39) dX3_whatIs_39 (by decide) rfl ?_
        refine e_iload (pc := 41) dX3_whatIs_41 rfl ?_
        refine e_if_eq (pc := 43) (tgt := 49) dX3_whatIs_43 (by decide) (fun _ => ?_) (fun _ => ?_)
        · refine e_iload_n (pc := 49) dX3_whatIs_49 rfl rfl ?_
          refine e_if_ne (pc := 50) (tgt := 63) dX3_whatIs_50 (by decide) (fun _ => ?_) (fun _ => ?_)
          · refine e_aload_n (pc := 63) dX3_whatIs_63 rfl rfl ?_
            refine e_aload (pc := 64) dX3_whatIs_64 rfl ?_
            refine e_iload_n (pc := 66) dX3_whatIs_66 rfl rfl ?_
            refine e_callV (pc := 67) (av := [.ref r3, .int a2]) (S := []) (c0 := 2) rfl rfl ok_X3_figuresThatFit ⟨Nat.le_of_ble_eq_true rfl, Nat.le_of_ble_eq_true rfl⟩ hv_X3_230 dX3_whatIs_67 (s_X3_figuresThatFit a0 r3 a2 w9) rfl rfl (Nat.le_of_ble_eq_true rfl) (fun x12 w11 => ?_)
            exact e_iret (pc := 70) dX3_whatIs_70 rfl rfl
          · refine e_aload_n (pc := 53) dX3_whatIs_53 rfl rfl ?_
            refine e_aload (pc := 54) dX3_whatIs_54 rfl ?_
            refine e_iload_n (pc := 56) dX3_whatIs_56 rfl rfl ?_
            refine e_callV (pc := 57) (av := [.ref r3, .int a2]) (S := []) (c0 := 2) rfl rfl ok_X3_sortsThatFit ⟨Nat.le_of_ble_eq_true rfl, Nat.le_of_ble_eq_true rfl⟩ hv_X3_226 dX3_whatIs_57 (s_X3_sortsThatFit a0 r3 a2 w9) rfl rfl (Nat.le_of_ble_eq_true rfl) (fun x14 w13 => ?_)
            refine e_goto (pc := 60) (tgt := 70) dX3_whatIs_60 (by decide) ?_
            exact e_iret (pc := 70) dX3_whatIs_70 rfl rfl
        · refine e_iload (pc := 46) dX3_whatIs_46 rfl ?_
          exact e_iret (pc := 48) dX3_whatIs_48 rfl rfl
      · refine e_iconst (pc := 32) dX3_whatIs_32 kc_m1 ?_
        exact e_iret (pc := 33) dX3_whatIs_33 rfl rfl
def M_X3_livingAndRowRefusal : aM := (yX3_livingAndRowRefusal, cX3_livingAndRowRefusal, 4, (some .int), 2, 43)
theorem ok_X3_livingAndRowRefusal : a_okM M_X3_livingAndRowRefusal 2 := ⟨⟨by decide +kernel, by decide +kernel⟩, by decide +kernel, a_in 611 (by decide +kernel) rfl, a_in 76 (by decide +kernel) rfl⟩
theorem dX3_livingAndRowRefusal_0 : decode M_X3_livingAndRowRefusal.2.1 0 = .ok (.aload_n 0, 1) := by decide +kernel
theorem dX3_livingAndRowRefusal_1 : decode M_X3_livingAndRowRefusal.2.1 1 = .ok (.iload_n 1, 1) := by decide +kernel
theorem dX3_livingAndRowRefusal_2 : decode M_X3_livingAndRowRefusal.2.1 2 = .ok (.invokevirtual 40, 3) := by decide +kernel
theorem dX3_livingAndRowRefusal_5 : decode M_X3_livingAndRowRefusal.2.1 5 = .ok (.astore_n 3, 1) := by decide +kernel
theorem dX3_livingAndRowRefusal_6 : decode M_X3_livingAndRowRefusal.2.1 6 = .ok (.aload_n 3, 1) := by decide +kernel
theorem dX3_livingAndRowRefusal_7 : decode M_X3_livingAndRowRefusal.2.1 7 = .ok (.ifnull 14, 3) := by decide +kernel
theorem dX3_livingAndRowRefusal_10 : decode M_X3_livingAndRowRefusal.2.1 10 = .ok (.aload_n 0, 1) := by decide +kernel
theorem dX3_livingAndRowRefusal_11 : decode M_X3_livingAndRowRefusal.2.1 11 = .ok (.getfield 10, 3) := by decide +kernel
theorem dX3_livingAndRowRefusal_14 : decode M_X3_livingAndRowRefusal.2.1 14 = .ok (.iload_n 2, 1) := by decide +kernel
theorem dX3_livingAndRowRefusal_15 : decode M_X3_livingAndRowRefusal.2.1 15 = .ok (.invokevirtual 83, 3) := by decide +kernel
theorem dX3_livingAndRowRefusal_18 : decode M_X3_livingAndRowRefusal.2.1 18 = .ok (.ifCond .ne 5, 3) := by decide +kernel
theorem dX3_livingAndRowRefusal_21 : decode M_X3_livingAndRowRefusal.2.1 21 = .ok (.iconst (-1), 1) := by decide +kernel
theorem dX3_livingAndRowRefusal_22 : decode M_X3_livingAndRowRefusal.2.1 22 = .ok (.ireturn, 1) := by decide +kernel
theorem dX3_livingAndRowRefusal_23 : decode M_X3_livingAndRowRefusal.2.1 23 = .ok (.aload_n 0, 1) := by decide +kernel
theorem dX3_livingAndRowRefusal_24 : decode M_X3_livingAndRowRefusal.2.1 24 = .ok (.getfield 10, 3) := by decide +kernel
theorem dX3_livingAndRowRefusal_27 : decode M_X3_livingAndRowRefusal.2.1 27 = .ok (.iload_n 2, 1) := by decide +kernel
theorem dX3_livingAndRowRefusal_28 : decode M_X3_livingAndRowRefusal.2.1 28 = .ok (.invokevirtual 160, 3) := by decide +kernel
theorem dX3_livingAndRowRefusal_31 : decode M_X3_livingAndRowRefusal.2.1 31 = .ok (.ifCond .eq 10, 3) := by decide +kernel
theorem dX3_livingAndRowRefusal_34 : decode M_X3_livingAndRowRefusal.2.1 34 = .ok (.aload_n 3, 1) := by decide +kernel
theorem dX3_livingAndRowRefusal_35 : decode M_X3_livingAndRowRefusal.2.1 35 = .ok (.invokevirtual 223, 3) := by decide +kernel
theorem dX3_livingAndRowRefusal_38 : decode M_X3_livingAndRowRefusal.2.1 38 = .ok (.goto 5, 3) := by decide +kernel
theorem dX3_livingAndRowRefusal_41 : decode M_X3_livingAndRowRefusal.2.1 41 = .ok (.bipush (-3), 2) := by decide +kernel
theorem dX3_livingAndRowRefusal_43 : decode M_X3_livingAndRowRefusal.2.1 43 = .ok (.ireturn, 1) := by decide +kernel
def f_X3_livingAndRowRefusal (a0 : Nat) (a1 : Int32) (a2 : Int32) (w : aW) : Option (Int32 × aW) :=
  cV 2 w a0 (bk (f_X3_shelfAt a0 a1 w) fun o2 w1 =>
  oc o2 (
    some ((-1 : Int32), w1)) fun r3 =>
  (gR 2 w1 a0 0).bind fun r4 =>
  cV 0 w1 r4 (bk (f_X0_hasBeast r4 a2 w1) fun x6 w5 =>
  if ¬ x6 = (0 : Int32) then
    (gR 2 w5 a0 0).bind fun r7 =>
    cV 0 w5 r7 (bk (f_X0_isAlive r7 a2 w5) fun x9 w8 =>
    if x9 = (0 : Int32) then
      some ((-3 : Int32), w8)
    else
      cV 1 w8 r3 (bk (f_X1_rowRefusal r3 w8) fun x11 w10 =>
      some (x11, w10)))
  else
    some ((-1 : Int32), w5)))
theorem s_X3_livingAndRowRefusal (a0 : Nat) (a1 : Int32) (a2 : Int32) (w : aW) : Sp rvI M_X3_livingAndRowRefusal [.ref a0, .int a1, .int a2] w (f_X3_livingAndRowRefusal a0 a1 a2 w) := by
  refine e_entry [some (.ref a0), some (.int a1), some (.int a2), none] (by decide +kernel) (Nat.le_of_ble_eq_true rfl) (fun _ => rfl) ?_
  unfold f_X3_livingAndRowRefusal
  refine e_aload_n (pc := 0) dX3_livingAndRowRefusal_0 rfl rfl ?_
  refine e_iload_n (pc := 1) dX3_livingAndRowRefusal_1 rfl rfl ?_
  refine e_callV (pc := 2) (av := [.int a1]) (S := []) (c0 := 2) rfl rfl ok_X3_shelfAt ⟨Nat.le_of_ble_eq_true rfl, Nat.le_of_ble_eq_true rfl⟩ hv_X3_40 dX3_livingAndRowRefusal_2 (s_X3_shelfAt a0 a1 w) rfl rfl (Nat.le_of_ble_eq_true rfl) (fun o2 w1 => ?_)
  refine e_oc (fun _ => ?_) (fun r3 _ => ?_)
  · refine e_astore_nN (L' := [some (.ref a0), some (.int a1), some (.int a2), some (.null)]) (pc := 5) dX3_livingAndRowRefusal_5 rfl (by decide) rfl ?_
    refine e_aload_nN (pc := 6) dX3_livingAndRowRefusal_6 rfl rfl ?_
    refine e_ifnullN (pc := 7) (tgt := 21) dX3_livingAndRowRefusal_7 (by decide) ?_
    refine e_iconst (pc := 21) dX3_livingAndRowRefusal_21 kc_m1 ?_
    exact e_iret (pc := 22) dX3_livingAndRowRefusal_22 rfl rfl
  · refine e_astore_n (L' := [some (.ref a0), some (.int a1), some (.int a2), some (.ref r3)]) (pc := 5) dX3_livingAndRowRefusal_5 rfl (by decide) rfl ?_
    refine e_aload_n (pc := 6) dX3_livingAndRowRefusal_6 rfl rfl ?_
    refine e_ifnull (pc := 7) dX3_livingAndRowRefusal_7 ?_
    refine e_aload_n (pc := 10) dX3_livingAndRowRefusal_10 rfl rfl ?_
    refine e_getR (pc := 11) dX3_livingAndRowRefusal_11 hs_X3_10 (fun r4 => ?_)
    refine e_iload_n (pc := 14) dX3_livingAndRowRefusal_14 rfl rfl ?_
    refine e_callV (pc := 15) (av := [.int a2]) (S := []) (c0 := 0) rfl rfl ok_X0_hasBeast ⟨Nat.le_of_ble_eq_true rfl, Nat.le_of_ble_eq_true rfl⟩ hv_X3_83 dX3_livingAndRowRefusal_15 (s_X0_hasBeast r4 a2 w1) rfl rfl (Nat.le_of_ble_eq_true rfl) (fun x6 w5 => ?_)
    refine e_if_ne (pc := 18) (tgt := 23) dX3_livingAndRowRefusal_18 (by decide) (fun _ => ?_) (fun _ => ?_)
    · refine e_aload_n (pc := 23) dX3_livingAndRowRefusal_23 rfl rfl ?_
      refine e_getR (pc := 24) dX3_livingAndRowRefusal_24 hs_X3_10 (fun r7 => ?_)
      refine e_iload_n (pc := 27) dX3_livingAndRowRefusal_27 rfl rfl ?_
      refine e_callV (pc := 28) (av := [.int a2]) (S := []) (c0 := 0) rfl rfl ok_X0_isAlive ⟨Nat.le_of_ble_eq_true rfl, Nat.le_of_ble_eq_true rfl⟩ hv_X3_160 dX3_livingAndRowRefusal_28 (s_X0_isAlive r7 a2 w5) rfl rfl (Nat.le_of_ble_eq_true rfl) (fun x9 w8 => ?_)
      refine e_if_eq (pc := 31) (tgt := 41) dX3_livingAndRowRefusal_31 (by decide) (fun _ => ?_) (fun _ => ?_)
      · refine e_bipush (pc := 41) dX3_livingAndRowRefusal_41 kb_m3 ?_
        exact e_iret (pc := 43) dX3_livingAndRowRefusal_43 rfl rfl
      · refine e_aload_n (pc := 34) dX3_livingAndRowRefusal_34 rfl rfl ?_
        refine e_callV (pc := 35) (av := []) (S := []) (c0 := 1) rfl rfl ok_X1_rowRefusal ⟨Nat.le_of_ble_eq_true rfl, Nat.le_of_ble_eq_true rfl⟩ hv_X3_223 dX3_livingAndRowRefusal_35 (s_X1_rowRefusal r3 w8) rfl rfl (Nat.le_of_ble_eq_true rfl) (fun x11 w10 => ?_)
        refine e_goto (pc := 38) (tgt := 43) dX3_livingAndRowRefusal_38 (by decide) ?_
        exact e_iret (pc := 43) dX3_livingAndRowRefusal_43 rfl rfl
    · refine e_iconst (pc := 21) dX3_livingAndRowRefusal_21 kc_m1 ?_
      exact e_iret (pc := 22) dX3_livingAndRowRefusal_22 rfl rfl
def M_X3_whereFrom : aM := (yX3_whereFrom, cX3_whereFrom, 7, (some .int), 5, 115)
theorem ok_X3_whereFrom : a_okM M_X3_whereFrom 2 := ⟨⟨by decide +kernel, by decide +kernel⟩, by decide +kernel, a_in 607 (by decide +kernel) rfl, a_in 76 (by decide +kernel) rfl⟩
theorem dX3_whereFrom_0 : decode M_X3_whereFrom.2.1 0 = .ok (.aload_n 0, 1) := by decide +kernel
theorem dX3_whereFrom_1 : decode M_X3_whereFrom.2.1 1 = .ok (.iload_n 1, 1) := by decide +kernel
theorem dX3_whereFrom_2 : decode M_X3_whereFrom.2.1 2 = .ok (.iload_n 2, 1) := by decide +kernel
theorem dX3_whereFrom_3 : decode M_X3_whereFrom.2.1 3 = .ok (.invokevirtual 233, 3) := by decide +kernel
theorem dX3_whereFrom_6 : decode M_X3_whereFrom.2.1 6 = .ok (.istore_n 3, 1) := by decide +kernel
theorem dX3_whereFrom_7 : decode M_X3_whereFrom.2.1 7 = .ok (.aload_n 0, 1) := by decide +kernel
theorem dX3_whereFrom_8 : decode M_X3_whereFrom.2.1 8 = .ok (.iload_n 1, 1) := by decide +kernel
theorem dX3_whereFrom_9 : decode M_X3_whereFrom.2.1 9 = .ok (.invokevirtual 40, 3) := by decide +kernel
theorem dX3_whereFrom_12 : decode M_X3_whereFrom.2.1 12 = .ok (.astore 4, 2) := by decide +kernel
theorem dX3_whereFrom_14 : decode M_X3_whereFrom.2.1 14 = .ok (.iload_n 3, 1) := by decide +kernel
theorem dX3_whereFrom_15 : decode M_X3_whereFrom.2.1 15 = .ok (.ifCond .ne 8, 3) := by decide +kernel
theorem dX3_whereFrom_18 : decode M_X3_whereFrom.2.1 18 = .ok (.aload 4, 2) := by decide +kernel
theorem dX3_whereFrom_20 : decode M_X3_whereFrom.2.1 20 = .ok (.ifnonnull 5, 3) := by decide +kernel
theorem dX3_whereFrom_23 : decode M_X3_whereFrom.2.1 23 = .ok (.iload_n 3, 1) := by decide +kernel
theorem dX3_whereFrom_24 : decode M_X3_whereFrom.2.1 24 = .ok (.ireturn, 1) := by decide +kernel
theorem dX3_whereFrom_25 : decode M_X3_whereFrom.2.1 25 = .ok (.iconst 0, 1) := by decide +kernel
theorem dX3_whereFrom_26 : decode M_X3_whereFrom.2.1 26 = .ok (.istore 5, 2) := by decide +kernel
theorem dX3_whereFrom_28 : decode M_X3_whereFrom.2.1 28 = .ok (.iconst 0, 1) := by decide +kernel
theorem dX3_whereFrom_29 : decode M_X3_whereFrom.2.1 29 = .ok (.istore 6, 2) := by decide +kernel
theorem dX3_whereFrom_31 : decode M_X3_whereFrom.2.1 31 = .ok (.iload 6, 2) := by decide +kernel
theorem dX3_whereFrom_33 : decode M_X3_whereFrom.2.1 33 = .ok (.bipush 16, 2) := by decide +kernel
theorem dX3_whereFrom_35 : decode M_X3_whereFrom.2.1 35 = .ok (.if_icmp .ge 52, 3) := by decide +kernel
theorem dX3_whereFrom_38 : decode M_X3_whereFrom.2.1 38 = .ok (.aload_n 0, 1) := by decide +kernel
theorem dX3_whereFrom_39 : decode M_X3_whereFrom.2.1 39 = .ok (.invokevirtual 56, 3) := by decide +kernel
theorem dX3_whereFrom_42 : decode M_X3_whereFrom.2.1 42 = .ok (.aload_n 0, 1) := by decide +kernel
theorem dX3_whereFrom_43 : decode M_X3_whereFrom.2.1 43 = .ok (.getfield 16, 3) := by decide +kernel
theorem dX3_whereFrom_46 : decode M_X3_whereFrom.2.1 46 = .ok (.getfield 236, 3) := by decide +kernel
theorem dX3_whereFrom_49 : decode M_X3_whereFrom.2.1 49 = .ok (.iload_n 2, 1) := by decide +kernel
theorem dX3_whereFrom_50 : decode M_X3_whereFrom.2.1 50 = .ok (.iload 6, 2) := by decide +kernel
theorem dX3_whereFrom_52 : decode M_X3_whereFrom.2.1 52 = .ok (.iastore, 1) := by decide +kernel
theorem dX3_whereFrom_53 : decode M_X3_whereFrom.2.1 53 = .ok (.aload_n 0, 1) := by decide +kernel
theorem dX3_whereFrom_54 : decode M_X3_whereFrom.2.1 54 = .ok (.getfield 16, 3) := by decide +kernel
theorem dX3_whereFrom_57 : decode M_X3_whereFrom.2.1 57 = .ok (.iconst 0, 1) := by decide +kernel
theorem dX3_whereFrom_58 : decode M_X3_whereFrom.2.1 58 = .ok (.invokevirtual 154, 3) := by decide +kernel
theorem dX3_whereFrom_61 : decode M_X3_whereFrom.2.1 61 = .ok (.aload_n 0, 1) := by decide +kernel
theorem dX3_whereFrom_62 : decode M_X3_whereFrom.2.1 62 = .ok (.aload 4, 2) := by decide +kernel
theorem dX3_whereFrom_64 : decode M_X3_whereFrom.2.1 64 = .ok (.iload_n 2, 1) := by decide +kernel
theorem dX3_whereFrom_65 : decode M_X3_whereFrom.2.1 65 = .ok (.iconst 2, 1) := by decide +kernel
theorem dX3_whereFrom_66 : decode M_X3_whereFrom.2.1 66 = .ok (.invokevirtual 239, 3) := by decide +kernel
theorem dX3_whereFrom_69 : decode M_X3_whereFrom.2.1 69 = .ok (.ifCond .eq 12, 3) := by decide +kernel
theorem dX3_whereFrom_72 : decode M_X3_whereFrom.2.1 72 = .ok (.iload 5, 2) := by decide +kernel
theorem dX3_whereFrom_74 : decode M_X3_whereFrom.2.1 74 = .ok (.iconst 1, 1) := by decide +kernel
theorem dX3_whereFrom_75 : decode M_X3_whereFrom.2.1 75 = .ok (.iload 6, 2) := by decide +kernel
theorem dX3_whereFrom_77 : decode M_X3_whereFrom.2.1 77 = .ok (.ishl, 1) := by decide +kernel
theorem dX3_whereFrom_78 : decode M_X3_whereFrom.2.1 78 = .ok (.ior, 1) := by decide +kernel
theorem dX3_whereFrom_79 : decode M_X3_whereFrom.2.1 79 = .ok (.istore 5, 2) := by decide +kernel
theorem dX3_whereFrom_81 : decode M_X3_whereFrom.2.1 81 = .ok (.iinc 6 1, 3) := by decide +kernel
theorem dX3_whereFrom_84 : decode M_X3_whereFrom.2.1 84 = .ok (.goto (-53), 3) := by decide +kernel
theorem dX3_whereFrom_87 : decode M_X3_whereFrom.2.1 87 = .ok (.iload 5, 2) := by decide +kernel
theorem dX3_whereFrom_89 : decode M_X3_whereFrom.2.1 89 = .ok (.ireturn, 1) := by decide +kernel
theorem hv_X3_233 : a_okV RX3 M_X3_livingAndRowRefusal 233 := ⟨a_in 608 (by decide +kernel) rfl, a_in 610 (by decide +kernel) rfl, a_in 18 (by decide +kernel) rfl⟩
theorem hs_X3_236 : a_fs RX3 236 0 6 := ⟨RX0, TX0, 13, rfl, tin_X0, by decide, a_in 118 (by decide +kernel) rfl⟩
def c_X3_whereFrom_31 (a0 : Nat) (a1 : Int32) (a2 : Int32) (k31 : Nat → Int32 → Int32 → aW → Option (Int32 × aW)) (b4 : Nat) (b5 : Int32) (b6 : Int32) (w : aW) : Option (Int32 × aW) :=
  if (16 : Int32) ≤ b6 then
    some (b5, w)
  else
    cV 2 w a0 (bk (f_X3_think a0 w) fun _ w6 =>
    (gR 2 w6 a0 1).bind fun r7 =>
    (gR 0 w6 r7 6).bind fun r8 =>
    (sA w6 r8 a2 b6).bind fun w9 =>
    (gR 2 w9 a0 1).bind fun r10 =>
    cV 0 w9 r10 (bk (f_X0_passDay r10 (0 : Int32) w9) fun _ w11 =>
    cV 2 w11 a0 (bk (f_X3_fits a0 b4 a2 (2 : Int32) w11) fun x13 w12 =>
    if x13 = (0 : Int32) then
      k31 b4 b5 (b6 + 1) w12
    else
      k31 b4 (b5 ||| ((1 : Int32) <<< (b6 &&& 31))) (b6 + 1) w12)))
theorem t_X3_whereFrom_31 (a0 : Nat) (a1 : Int32) (a2 : Int32) (k31 : Nat → Int32 → Int32 → aW → Option (Int32 × aW)) (hk31 : ∀ (b4 : Nat) (b5 : Int32) (b6 : Int32) (w : aW), Ev rvI M_X3_whereFrom 31 [some (.ref a0), none, some (.int a2), none, some (.ref b4), some (.int b5), some (.int b6)] [] w (k31 b4 b5 b6 w)) (b4 : Nat) (b5 : Int32) (b6 : Int32) (w : aW) : Ev rvI M_X3_whereFrom 31 [some (.ref a0), none, some (.int a2), none, some (.ref b4), some (.int b5), some (.int b6)] [] w (c_X3_whereFrom_31 a0 a1 a2 k31 b4 b5 b6 w) := by
  unfold c_X3_whereFrom_31
  refine e_iload (pc := 31) dX3_whereFrom_31 rfl ?_
  refine e_bipush (pc := 33) dX3_whereFrom_33 kb_16 ?_
  refine e_icmp_ge (pc := 35) (tgt := 87) dX3_whereFrom_35 (by decide) (fun _ => ?_) (fun _ => ?_)
  · refine e_iload (pc := 87) dX3_whereFrom_87 rfl ?_
    exact e_iret (pc := 89) dX3_whereFrom_89 rfl rfl
  · refine e_aload_n (pc := 38) dX3_whereFrom_38 rfl rfl ?_
    refine e_callV (pc := 39) (av := []) (S := []) (c0 := 2) rfl rfl ok_X3_think ⟨Nat.le_of_ble_eq_true rfl, Nat.le_of_ble_eq_true rfl⟩ hv_X3_56 dX3_whereFrom_39 (s_X3_think a0 w) rfl rfl (Nat.le_of_ble_eq_true rfl) (fun _ w6 => ?_)
    refine e_aload_n (pc := 42) dX3_whereFrom_42 rfl rfl ?_
    refine e_getR (pc := 43) dX3_whereFrom_43 hs_X3_16 (fun r7 => ?_)
    refine e_getR (pc := 46) dX3_whereFrom_46 hs_X3_236 (fun r8 => ?_)
    refine e_iload_n (pc := 49) dX3_whereFrom_49 rfl rfl ?_
    refine e_iload (pc := 50) dX3_whereFrom_50 rfl ?_
    refine e_iast (pc := 52) dX3_whereFrom_52 (fun w9 => ?_)
    refine e_aload_n (pc := 53) dX3_whereFrom_53 rfl rfl ?_
    refine e_getR (pc := 54) dX3_whereFrom_54 hs_X3_16 (fun r10 => ?_)
    refine e_iconst (pc := 57) dX3_whereFrom_57 kc_0 ?_
    refine e_callV (pc := 58) (av := [.int (0 : Int32)]) (S := []) (c0 := 0) rfl rfl ok_X0_passDay ⟨Nat.le_of_ble_eq_true rfl, Nat.le_of_ble_eq_true rfl⟩ hv_X3_154 dX3_whereFrom_58 (s_X0_passDay r10 (0 : Int32) w9) rfl rfl (Nat.le_of_ble_eq_true rfl) (fun _ w11 => ?_)
    refine e_aload_n (pc := 61) dX3_whereFrom_61 rfl rfl ?_
    refine e_aload (pc := 62) dX3_whereFrom_62 rfl ?_
    refine e_iload_n (pc := 64) dX3_whereFrom_64 rfl rfl ?_
    refine e_iconst (pc := 65) dX3_whereFrom_65 kc_2 ?_
    refine e_callV (pc := 66) (av := [.ref b4, .int a2, .int (2 : Int32)]) (S := []) (c0 := 2) rfl rfl ok_X3_fits ⟨Nat.le_of_ble_eq_true rfl, Nat.le_of_ble_eq_true rfl⟩ hv_X3_239 dX3_whereFrom_66 (s_X3_fits a0 b4 a2 (2 : Int32) w11) rfl rfl (Nat.le_of_ble_eq_true rfl) (fun x13 w12 => ?_)
    refine e_if_eq (pc := 69) (tgt := 81) dX3_whereFrom_69 (by decide) (fun _ => ?_) (fun _ => ?_)
    · refine e_iinc (L' := [some (.ref a0), none, some (.int a2), none, some (.ref b4), some (.int b5), some (.int (b6 + 1))]) (pc := 81) (v := 1) dX3_whereFrom_81 (by decide) rfl kc_1 rfl ?_
      refine e_goto (pc := 84) (tgt := 31) dX3_whereFrom_84 (by decide) ?_
      exact hk31 b4 b5 (b6 + 1) w12
    · refine e_iload (pc := 72) dX3_whereFrom_72 rfl ?_
      refine e_iconst (pc := 74) dX3_whereFrom_74 kc_1 ?_
      refine e_iload (pc := 75) dX3_whereFrom_75 rfl ?_
      refine e_ishl (pc := 77) dX3_whereFrom_77 ?_
      refine e_ior (pc := 78) dX3_whereFrom_78 ?_
      refine e_istore (L' := [some (.ref a0), none, some (.int a2), none, some (.ref b4), some (.int (b5 ||| ((1 : Int32) <<< (b6 &&& 31)))), some (.int b6)]) (pc := 79) dX3_whereFrom_79 (by decide) rfl ?_
      refine e_iinc (L' := [some (.ref a0), none, some (.int a2), none, some (.ref b4), some (.int (b5 ||| ((1 : Int32) <<< (b6 &&& 31)))), some (.int (b6 + 1))]) (pc := 81) (v := 1) dX3_whereFrom_81 (by decide) rfl kc_1 rfl ?_
      refine e_goto (pc := 84) (tgt := 31) dX3_whereFrom_84 (by decide) ?_
      exact hk31 b4 (b5 ||| ((1 : Int32) <<< (b6 &&& 31))) (b6 + 1) w12
def f_X3_whereFrom (a0 : Nat) (a1 : Int32) (a2 : Int32) (w : aW) : Option (Int32 × aW) :=
  cV 2 w a0 (bk (f_X3_livingAndRowRefusal a0 a1 a2 w) fun x2 w1 =>
  cV 2 w1 a0 (bk (f_X3_shelfAt a0 a1 w1) fun o4 w3 =>
  oc o4 (
    if ¬ x2 = (0 : Int32) then
      some (x2, w3)
    else
      some (x2, w3)) fun r5 =>
  if ¬ x2 = (0 : Int32) then
    some (x2, w3)
  else
    loop4 (c_X3_whereFrom_31 a0 a1 a2) a_fuel r5 (0 : Int32) (0 : Int32) w3))
theorem s_X3_whereFrom (a0 : Nat) (a1 : Int32) (a2 : Int32) (w : aW) : Sp rvI M_X3_whereFrom [.ref a0, .int a1, .int a2] w (f_X3_whereFrom a0 a1 a2 w) := by
  refine e_entry [some (.ref a0), some (.int a1), some (.int a2), none, none, none, none] (by decide +kernel) (Nat.le_of_ble_eq_true rfl) (fun _ => rfl) ?_
  unfold f_X3_whereFrom
  refine e_aload_n (pc := 0) dX3_whereFrom_0 rfl rfl ?_
  refine e_iload_n (pc := 1) dX3_whereFrom_1 rfl rfl ?_
  refine e_iload_n (pc := 2) dX3_whereFrom_2 rfl rfl ?_
  refine e_callV (pc := 3) (av := [.int a1, .int a2]) (S := []) (c0 := 2) rfl rfl ok_X3_livingAndRowRefusal ⟨Nat.le_of_ble_eq_true rfl, Nat.le_of_ble_eq_true rfl⟩ hv_X3_233 dX3_whereFrom_3 (s_X3_livingAndRowRefusal a0 a1 a2 w) rfl rfl (Nat.le_of_ble_eq_true rfl) (fun x2 w1 => ?_)
  refine e_istore_n (L' := [some (.ref a0), some (.int a1), some (.int a2), some (.int x2), none, none, none]) (pc := 6) dX3_whereFrom_6 rfl (by decide) rfl ?_
  refine e_aload_n (pc := 7) dX3_whereFrom_7 rfl rfl ?_
  refine e_iload_n (pc := 8) dX3_whereFrom_8 rfl rfl ?_
  refine e_callV (pc := 9) (av := [.int a1]) (S := []) (c0 := 2) rfl rfl ok_X3_shelfAt ⟨Nat.le_of_ble_eq_true rfl, Nat.le_of_ble_eq_true rfl⟩ hv_X3_40 dX3_whereFrom_9 (s_X3_shelfAt a0 a1 w1) rfl rfl (Nat.le_of_ble_eq_true rfl) (fun o4 w3 => ?_)
  refine e_oc (fun _ => ?_) (fun r5 _ => ?_)
  · refine e_astoreN (L' := [some (.ref a0), some (.int a1), some (.int a2), some (.int x2), some (.null), none, none]) (pc := 12) dX3_whereFrom_12 (by decide) rfl ?_
    refine e_iload_n (pc := 14) dX3_whereFrom_14 rfl rfl ?_
    refine e_if_ne (pc := 15) (tgt := 23) dX3_whereFrom_15 (by decide) (fun _ => ?_) (fun _ => ?_)
    · refine e_iload_n (pc := 23) dX3_whereFrom_23 rfl rfl ?_
      exact e_iret (pc := 24) dX3_whereFrom_24 rfl rfl
    · refine e_aloadN (pc := 18) dX3_whereFrom_18 rfl ?_
      refine e_ifnonnullN (pc := 20) dX3_whereFrom_20 ?_
      refine e_iload_n (pc := 23) dX3_whereFrom_23 rfl rfl ?_
      exact e_iret (pc := 24) dX3_whereFrom_24 rfl rfl
  · refine e_astore (L' := [some (.ref a0), some (.int a1), some (.int a2), some (.int x2), some (.ref r5), none, none]) (pc := 12) dX3_whereFrom_12 (by decide) rfl ?_
    refine e_iload_n (pc := 14) dX3_whereFrom_14 rfl rfl ?_
    refine e_if_ne (pc := 15) (tgt := 23) dX3_whereFrom_15 (by decide) (fun _ => ?_) (fun _ => ?_)
    · refine e_iload_n (pc := 23) dX3_whereFrom_23 rfl rfl ?_
      exact e_iret (pc := 24) dX3_whereFrom_24 rfl rfl
    · refine e_aload (pc := 18) dX3_whereFrom_18 rfl ?_
      refine e_ifnonnull (pc := 20) (tgt := 25) dX3_whereFrom_20 (by decide) ?_
      refine e_iconst (pc := 25) dX3_whereFrom_25 kc_0 ?_
      refine e_istore (L' := [some (.ref a0), some (.int a1), some (.int a2), some (.int x2), some (.ref r5), some (.int (0 : Int32)), none]) (pc := 26) dX3_whereFrom_26 (by decide) rfl ?_
      refine e_iconst (pc := 28) dX3_whereFrom_28 kc_0 ?_
      refine e_istore (L' := [some (.ref a0), some (.int a1), some (.int a2), some (.int x2), some (.ref r5), some (.int (0 : Int32)), some (.int (0 : Int32))]) (pc := 29) dX3_whereFrom_29 (by decide) rfl ?_
      refine e_forget (L2 := [some (.ref a0), none, some (.int a2), none, some (.ref r5), some (.int (0 : Int32)), some (.int (0 : Int32))]) (And.intro rfl (And.intro rfl (And.intro rfl (And.intro rfl (And.intro rfl trivial))))) ?_
      exact e_loop4 (L := fun b4 b5 b6 => [some (.ref a0), none, some (.int a2), none, some (.ref b4), some (.int b5), some (.int b6)]) (S := fun b4 b5 b6 => []) (fun kf hkf => t_X3_whereFrom_31 a0 a1 a2  kf hkf) _ r5 (0 : Int32) (0 : Int32) w3
def M_X3_whose : aM := (yX3_whose, cX3_whose, 7, (some .int), 5, 115)
theorem ok_X3_whose : a_okM M_X3_whose 2 := ⟨⟨by decide +kernel, by decide +kernel⟩, by decide +kernel, a_in 615 (by decide +kernel) rfl, a_in 76 (by decide +kernel) rfl⟩
theorem dX3_whose_0 : decode M_X3_whose.2.1 0 = .ok (.aload_n 0, 1) := by decide +kernel
theorem dX3_whose_1 : decode M_X3_whose.2.1 1 = .ok (.iload_n 1, 1) := by decide +kernel
theorem dX3_whose_2 : decode M_X3_whose.2.1 2 = .ok (.iload_n 2, 1) := by decide +kernel
theorem dX3_whose_3 : decode M_X3_whose.2.1 3 = .ok (.invokevirtual 233, 3) := by decide +kernel
theorem dX3_whose_6 : decode M_X3_whose.2.1 6 = .ok (.istore_n 3, 1) := by decide +kernel
theorem dX3_whose_7 : decode M_X3_whose.2.1 7 = .ok (.aload_n 0, 1) := by decide +kernel
theorem dX3_whose_8 : decode M_X3_whose.2.1 8 = .ok (.iload_n 1, 1) := by decide +kernel
theorem dX3_whose_9 : decode M_X3_whose.2.1 9 = .ok (.invokevirtual 40, 3) := by decide +kernel
theorem dX3_whose_12 : decode M_X3_whose.2.1 12 = .ok (.astore 4, 2) := by decide +kernel
theorem dX3_whose_14 : decode M_X3_whose.2.1 14 = .ok (.iload_n 3, 1) := by decide +kernel
theorem dX3_whose_15 : decode M_X3_whose.2.1 15 = .ok (.ifCond .ne 8, 3) := by decide +kernel
theorem dX3_whose_18 : decode M_X3_whose.2.1 18 = .ok (.aload 4, 2) := by decide +kernel
theorem dX3_whose_20 : decode M_X3_whose.2.1 20 = .ok (.ifnonnull 5, 3) := by decide +kernel
theorem dX3_whose_23 : decode M_X3_whose.2.1 23 = .ok (.iload_n 3, 1) := by decide +kernel
theorem dX3_whose_24 : decode M_X3_whose.2.1 24 = .ok (.ireturn, 1) := by decide +kernel
theorem dX3_whose_25 : decode M_X3_whose.2.1 25 = .ok (.iconst 0, 1) := by decide +kernel
theorem dX3_whose_26 : decode M_X3_whose.2.1 26 = .ok (.istore 5, 2) := by decide +kernel
theorem dX3_whose_28 : decode M_X3_whose.2.1 28 = .ok (.iconst 0, 1) := by decide +kernel
theorem dX3_whose_29 : decode M_X3_whose.2.1 29 = .ok (.istore 6, 2) := by decide +kernel
theorem dX3_whose_31 : decode M_X3_whose.2.1 31 = .ok (.iload 6, 2) := by decide +kernel
theorem dX3_whose_33 : decode M_X3_whose.2.1 33 = .ok (.iconst 5, 1) := by decide +kernel
theorem dX3_whose_34 : decode M_X3_whose.2.1 34 = .ok (.if_icmp .gt 55, 3) := by decide +kernel
theorem dX3_whose_37 : decode M_X3_whose.2.1 37 = .ok (.aload_n 0, 1) := by decide +kernel
theorem dX3_whose_38 : decode M_X3_whose.2.1 38 = .ok (.invokevirtual 56, 3) := by decide +kernel
theorem dX3_whose_41 : decode M_X3_whose.2.1 41 = .ok (.aload_n 0, 1) := by decide +kernel
theorem dX3_whose_42 : decode M_X3_whose.2.1 42 = .ok (.getfield 16, 3) := by decide +kernel
theorem dX3_whose_45 : decode M_X3_whose.2.1 45 = .ok (.getfield 151, 3) := by decide +kernel
theorem dX3_whose_48 : decode M_X3_whose.2.1 48 = .ok (.iload_n 2, 1) := by decide +kernel
theorem dX3_whose_49 : decode M_X3_whose.2.1 49 = .ok (.iload 6, 2) := by decide +kernel
theorem dX3_whose_51 : decode M_X3_whose.2.1 51 = .ok (.iconst 5, 1) := by decide +kernel
theorem dX3_whose_52 : decode M_X3_whose.2.1 52 = .ok (.if_icmp .ne 8, 3) := by decide +kernel
theorem dX3_whose_55 : decode M_X3_whose.2.1 55 = .ok (.bipush (-4), 2) := by decide +kernel
theorem dX3_whose_57 : decode M_X3_whose.2.1 57 = .ok (.goto 5, 3) := by decide +kernel
theorem dX3_whose_60 : decode M_X3_whose.2.1 60 = .ok (.iload 6, 2) := by decide +kernel
theorem dX3_whose_62 : decode M_X3_whose.2.1 62 = .ok (.iastore, 1) := by decide +kernel
theorem dX3_whose_63 : decode M_X3_whose.2.1 63 = .ok (.aload_n 0, 1) := by decide +kernel
theorem dX3_whose_64 : decode M_X3_whose.2.1 64 = .ok (.aload 4, 2) := by decide +kernel
theorem dX3_whose_66 : decode M_X3_whose.2.1 66 = .ok (.iload_n 2, 1) := by decide +kernel
theorem dX3_whose_67 : decode M_X3_whose.2.1 67 = .ok (.iconst 3, 1) := by decide +kernel
theorem dX3_whose_68 : decode M_X3_whose.2.1 68 = .ok (.invokevirtual 239, 3) := by decide +kernel
theorem dX3_whose_71 : decode M_X3_whose.2.1 71 = .ok (.ifCond .eq 12, 3) := by decide +kernel
theorem dX3_whose_74 : decode M_X3_whose.2.1 74 = .ok (.iload 5, 2) := by decide +kernel
theorem dX3_whose_76 : decode M_X3_whose.2.1 76 = .ok (.iconst 1, 1) := by decide +kernel
theorem dX3_whose_77 : decode M_X3_whose.2.1 77 = .ok (.iload 6, 2) := by decide +kernel
theorem dX3_whose_79 : decode M_X3_whose.2.1 79 = .ok (.ishl, 1) := by decide +kernel
theorem dX3_whose_80 : decode M_X3_whose.2.1 80 = .ok (.ior, 1) := by decide +kernel
theorem dX3_whose_81 : decode M_X3_whose.2.1 81 = .ok (.istore 5, 2) := by decide +kernel
theorem dX3_whose_83 : decode M_X3_whose.2.1 83 = .ok (.iinc 6 1, 3) := by decide +kernel
theorem dX3_whose_86 : decode M_X3_whose.2.1 86 = .ok (.goto (-55), 3) := by decide +kernel
theorem dX3_whose_89 : decode M_X3_whose.2.1 89 = .ok (.iload 5, 2) := by decide +kernel
theorem dX3_whose_91 : decode M_X3_whose.2.1 91 = .ok (.ireturn, 1) := by decide +kernel
def c_X3_whose_62 (a0 : Nat) (a1 : Int32) (a2 : Int32) (k31 : Nat → Int32 → Int32 → aW → Option (Int32 × aW)) (b4 : Nat) (b5 : Int32) (b6 : Int32) (s0 : Int32) (s1 : Int32) (s2 : Nat) (w : aW) : Option (Int32 × aW) :=
  (sA w s2 s1 s0).bind fun w9 =>
  cV 2 w9 a0 (bk (f_X3_fits a0 b4 a2 (3 : Int32) w9) fun x11 w10 =>
  if x11 = (0 : Int32) then
    k31 b4 b5 (b6 + 1) w10
  else
    k31 b4 (b5 ||| ((1 : Int32) <<< (b6 &&& 31))) (b6 + 1) w10)
theorem t_X3_whose_62 (a0 : Nat) (a1 : Int32) (a2 : Int32) (k31 : Nat → Int32 → Int32 → aW → Option (Int32 × aW)) (hk31 : ∀ (b4 : Nat) (b5 : Int32) (b6 : Int32) (w : aW), Ev rvI M_X3_whose 31 [some (.ref a0), none, some (.int a2), none, some (.ref b4), some (.int b5), some (.int b6)] [] w (k31 b4 b5 b6 w)) (b4 : Nat) (b5 : Int32) (b6 : Int32) (s0 : Int32) (s1 : Int32) (s2 : Nat) (w : aW) : Ev rvI M_X3_whose 62 [some (.ref a0), none, some (.int a2), none, some (.ref b4), some (.int b5), some (.int b6)] [.int s0, .int s1, .ref s2] w (c_X3_whose_62 a0 a1 a2 k31 b4 b5 b6 s0 s1 s2 w) := by
  unfold c_X3_whose_62
  refine e_iast (pc := 62) dX3_whose_62 (fun w9 => ?_)
  refine e_aload_n (pc := 63) dX3_whose_63 rfl rfl ?_
  refine e_aload (pc := 64) dX3_whose_64 rfl ?_
  refine e_iload_n (pc := 66) dX3_whose_66 rfl rfl ?_
  refine e_iconst (pc := 67) dX3_whose_67 kc_3 ?_
  refine e_callV (pc := 68) (av := [.ref b4, .int a2, .int (3 : Int32)]) (S := []) (c0 := 2) rfl rfl ok_X3_fits ⟨Nat.le_of_ble_eq_true rfl, Nat.le_of_ble_eq_true rfl⟩ hv_X3_239 dX3_whose_68 (s_X3_fits a0 b4 a2 (3 : Int32) w9) rfl rfl (Nat.le_of_ble_eq_true rfl) (fun x11 w10 => ?_)
  refine e_if_eq (pc := 71) (tgt := 83) dX3_whose_71 (by decide) (fun _ => ?_) (fun _ => ?_)
  · refine e_iinc (L' := [some (.ref a0), none, some (.int a2), none, some (.ref b4), some (.int b5), some (.int (b6 + 1))]) (pc := 83) (v := 1) dX3_whose_83 (by decide) rfl kc_1 rfl ?_
    refine e_goto (pc := 86) (tgt := 31) dX3_whose_86 (by decide) ?_
    exact hk31 b4 b5 (b6 + 1) w10
  · refine e_iload (pc := 74) dX3_whose_74 rfl ?_
    refine e_iconst (pc := 76) dX3_whose_76 kc_1 ?_
    refine e_iload (pc := 77) dX3_whose_77 rfl ?_
    refine e_ishl (pc := 79) dX3_whose_79 ?_
    refine e_ior (pc := 80) dX3_whose_80 ?_
    refine e_istore (L' := [some (.ref a0), none, some (.int a2), none, some (.ref b4), some (.int (b5 ||| ((1 : Int32) <<< (b6 &&& 31)))), some (.int b6)]) (pc := 81) dX3_whose_81 (by decide) rfl ?_
    refine e_iinc (L' := [some (.ref a0), none, some (.int a2), none, some (.ref b4), some (.int (b5 ||| ((1 : Int32) <<< (b6 &&& 31)))), some (.int (b6 + 1))]) (pc := 83) (v := 1) dX3_whose_83 (by decide) rfl kc_1 rfl ?_
    refine e_goto (pc := 86) (tgt := 31) dX3_whose_86 (by decide) ?_
    exact hk31 b4 (b5 ||| ((1 : Int32) <<< (b6 &&& 31))) (b6 + 1) w10
def c_X3_whose_31 (a0 : Nat) (a1 : Int32) (a2 : Int32) (k31 : Nat → Int32 → Int32 → aW → Option (Int32 × aW)) (b4 : Nat) (b5 : Int32) (b6 : Int32) (w : aW) : Option (Int32 × aW) :=
  if (5 : Int32) < b6 then
    some (b5, w)
  else
    cV 2 w a0 (bk (f_X3_think a0 w) fun _ w6 =>
    (gR 2 w6 a0 1).bind fun r7 =>
    (gR 0 w6 r7 8).bind fun r8 =>
    if ¬ b6 = (5 : Int32) then
      c_X3_whose_62 a0 a1 a2 k31 b4 b5 b6 b6 a2 r8 w6
    else
      c_X3_whose_62 a0 a1 a2 k31 b4 b5 b6 (-4 : Int32) a2 r8 w6)
theorem t_X3_whose_31 (a0 : Nat) (a1 : Int32) (a2 : Int32) (k31 : Nat → Int32 → Int32 → aW → Option (Int32 × aW)) (hk31 : ∀ (b4 : Nat) (b5 : Int32) (b6 : Int32) (w : aW), Ev rvI M_X3_whose 31 [some (.ref a0), none, some (.int a2), none, some (.ref b4), some (.int b5), some (.int b6)] [] w (k31 b4 b5 b6 w)) (b4 : Nat) (b5 : Int32) (b6 : Int32) (w : aW) : Ev rvI M_X3_whose 31 [some (.ref a0), none, some (.int a2), none, some (.ref b4), some (.int b5), some (.int b6)] [] w (c_X3_whose_31 a0 a1 a2 k31 b4 b5 b6 w) := by
  unfold c_X3_whose_31
  refine e_iload (pc := 31) dX3_whose_31 rfl ?_
  refine e_iconst (pc := 33) dX3_whose_33 kc_5 ?_
  refine e_icmp_gt (pc := 34) (tgt := 89) dX3_whose_34 (by decide) (fun _ => ?_) (fun _ => ?_)
  · refine e_iload (pc := 89) dX3_whose_89 rfl ?_
    exact e_iret (pc := 91) dX3_whose_91 rfl rfl
  · refine e_aload_n (pc := 37) dX3_whose_37 rfl rfl ?_
    refine e_callV (pc := 38) (av := []) (S := []) (c0 := 2) rfl rfl ok_X3_think ⟨Nat.le_of_ble_eq_true rfl, Nat.le_of_ble_eq_true rfl⟩ hv_X3_56 dX3_whose_38 (s_X3_think a0 w) rfl rfl (Nat.le_of_ble_eq_true rfl) (fun _ w6 => ?_)
    refine e_aload_n (pc := 41) dX3_whose_41 rfl rfl ?_
    refine e_getR (pc := 42) dX3_whose_42 hs_X3_16 (fun r7 => ?_)
    refine e_getR (pc := 45) dX3_whose_45 hs_X3_151 (fun r8 => ?_)
    refine e_iload_n (pc := 48) dX3_whose_48 rfl rfl ?_
    refine e_iload (pc := 49) dX3_whose_49 rfl ?_
    refine e_iconst (pc := 51) dX3_whose_51 kc_5 ?_
    refine e_icmp_ne (pc := 52) (tgt := 60) dX3_whose_52 (by decide) (fun _ => ?_) (fun _ => ?_)
    · refine e_iload (pc := 60) dX3_whose_60 rfl ?_
      exact t_X3_whose_62 a0 a1 a2 k31 hk31 b4 b5 b6 b6 a2 r8 w6
    · refine e_bipush (pc := 55) dX3_whose_55 kb_m4 ?_
      refine e_goto (pc := 57) (tgt := 62) dX3_whose_57 (by decide) ?_
      exact t_X3_whose_62 a0 a1 a2 k31 hk31 b4 b5 b6 (-4 : Int32) a2 r8 w6
def f_X3_whose (a0 : Nat) (a1 : Int32) (a2 : Int32) (w : aW) : Option (Int32 × aW) :=
  cV 2 w a0 (bk (f_X3_livingAndRowRefusal a0 a1 a2 w) fun x2 w1 =>
  cV 2 w1 a0 (bk (f_X3_shelfAt a0 a1 w1) fun o4 w3 =>
  oc o4 (
    if ¬ x2 = (0 : Int32) then
      some (x2, w3)
    else
      some (x2, w3)) fun r5 =>
  if ¬ x2 = (0 : Int32) then
    some (x2, w3)
  else
    loop4 (c_X3_whose_31 a0 a1 a2) a_fuel r5 (0 : Int32) (0 : Int32) w3))
theorem s_X3_whose (a0 : Nat) (a1 : Int32) (a2 : Int32) (w : aW) : Sp rvI M_X3_whose [.ref a0, .int a1, .int a2] w (f_X3_whose a0 a1 a2 w) := by
  refine e_entry [some (.ref a0), some (.int a1), some (.int a2), none, none, none, none] (by decide +kernel) (Nat.le_of_ble_eq_true rfl) (fun _ => rfl) ?_
  unfold f_X3_whose
  refine e_aload_n (pc := 0) dX3_whose_0 rfl rfl ?_
  refine e_iload_n (pc := 1) dX3_whose_1 rfl rfl ?_
  refine e_iload_n (pc := 2) dX3_whose_2 rfl rfl ?_
  refine e_callV (pc := 3) (av := [.int a1, .int a2]) (S := []) (c0 := 2) rfl rfl ok_X3_livingAndRowRefusal ⟨Nat.le_of_ble_eq_true rfl, Nat.le_of_ble_eq_true rfl⟩ hv_X3_233 dX3_whose_3 (s_X3_livingAndRowRefusal a0 a1 a2 w) rfl rfl (Nat.le_of_ble_eq_true rfl) (fun x2 w1 => ?_)
  refine e_istore_n (L' := [some (.ref a0), some (.int a1), some (.int a2), some (.int x2), none, none, none]) (pc := 6) dX3_whose_6 rfl (by decide) rfl ?_
  refine e_aload_n (pc := 7) dX3_whose_7 rfl rfl ?_
  refine e_iload_n (pc := 8) dX3_whose_8 rfl rfl ?_
  refine e_callV (pc := 9) (av := [.int a1]) (S := []) (c0 := 2) rfl rfl ok_X3_shelfAt ⟨Nat.le_of_ble_eq_true rfl, Nat.le_of_ble_eq_true rfl⟩ hv_X3_40 dX3_whose_9 (s_X3_shelfAt a0 a1 w1) rfl rfl (Nat.le_of_ble_eq_true rfl) (fun o4 w3 => ?_)
  refine e_oc (fun _ => ?_) (fun r5 _ => ?_)
  · refine e_astoreN (L' := [some (.ref a0), some (.int a1), some (.int a2), some (.int x2), some (.null), none, none]) (pc := 12) dX3_whose_12 (by decide) rfl ?_
    refine e_iload_n (pc := 14) dX3_whose_14 rfl rfl ?_
    refine e_if_ne (pc := 15) (tgt := 23) dX3_whose_15 (by decide) (fun _ => ?_) (fun _ => ?_)
    · refine e_iload_n (pc := 23) dX3_whose_23 rfl rfl ?_
      exact e_iret (pc := 24) dX3_whose_24 rfl rfl
    · refine e_aloadN (pc := 18) dX3_whose_18 rfl ?_
      refine e_ifnonnullN (pc := 20) dX3_whose_20 ?_
      refine e_iload_n (pc := 23) dX3_whose_23 rfl rfl ?_
      exact e_iret (pc := 24) dX3_whose_24 rfl rfl
  · refine e_astore (L' := [some (.ref a0), some (.int a1), some (.int a2), some (.int x2), some (.ref r5), none, none]) (pc := 12) dX3_whose_12 (by decide) rfl ?_
    refine e_iload_n (pc := 14) dX3_whose_14 rfl rfl ?_
    refine e_if_ne (pc := 15) (tgt := 23) dX3_whose_15 (by decide) (fun _ => ?_) (fun _ => ?_)
    · refine e_iload_n (pc := 23) dX3_whose_23 rfl rfl ?_
      exact e_iret (pc := 24) dX3_whose_24 rfl rfl
    · refine e_aload (pc := 18) dX3_whose_18 rfl ?_
      refine e_ifnonnull (pc := 20) (tgt := 25) dX3_whose_20 (by decide) ?_
      refine e_iconst (pc := 25) dX3_whose_25 kc_0 ?_
      refine e_istore (L' := [some (.ref a0), some (.int a1), some (.int a2), some (.int x2), some (.ref r5), some (.int (0 : Int32)), none]) (pc := 26) dX3_whose_26 (by decide) rfl ?_
      refine e_iconst (pc := 28) dX3_whose_28 kc_0 ?_
      refine e_istore (L' := [some (.ref a0), some (.int a1), some (.int a2), some (.int x2), some (.ref r5), some (.int (0 : Int32)), some (.int (0 : Int32))]) (pc := 29) dX3_whose_29 (by decide) rfl ?_
      refine e_forget (L2 := [some (.ref a0), none, some (.int a2), none, some (.ref r5), some (.int (0 : Int32)), some (.int (0 : Int32))]) (And.intro rfl (And.intro rfl (And.intro rfl (And.intro rfl (And.intro rfl trivial))))) ?_
      exact e_loop4 (L := fun b4 b5 b6 => [some (.ref a0), none, some (.int a2), none, some (.ref b4), some (.int b5), some (.int b6)]) (S := fun b4 b5 b6 => []) (fun kf hkf => t_X3_whose_31 a0 a1 a2  kf hkf) _ r5 (0 : Int32) (0 : Int32) w3
def M_X3_meansLessGrief : aM := (yX3_meansLessGrief, cX3_meansLessGrief, 2, (some .int), 0, 0)
theorem ok_X3_meansLessGrief : a_okM M_X3_meansLessGrief 1 := ⟨⟨by decide +kernel, by decide +kernel⟩, by decide +kernel, a_in 623 (by decide +kernel) rfl, a_in 76 (by decide +kernel) rfl⟩
theorem dX3_meansLessGrief_0 : decode M_X3_meansLessGrief.2.1 0 = .ok (.aload_n 0, 1) := by decide +kernel
theorem dX3_meansLessGrief_1 : decode M_X3_meansLessGrief.2.1 1 = .ok (.getfield 16, 3) := by decide +kernel
theorem dX3_meansLessGrief_4 : decode M_X3_meansLessGrief.2.1 4 = .ok (.getfield 142, 3) := by decide +kernel
theorem dX3_meansLessGrief_7 : decode M_X3_meansLessGrief.2.1 7 = .ok (.iload_n 1, 1) := by decide +kernel
theorem dX3_meansLessGrief_8 : decode M_X3_meansLessGrief.2.1 8 = .ok (.iaload, 1) := by decide +kernel
theorem dX3_meansLessGrief_9 : decode M_X3_meansLessGrief.2.1 9 = .ok (.iconst 5, 1) := by decide +kernel
theorem dX3_meansLessGrief_10 : decode M_X3_meansLessGrief.2.1 10 = .ok (.aload_n 0, 1) := by decide +kernel
theorem dX3_meansLessGrief_11 : decode M_X3_meansLessGrief.2.1 11 = .ok (.getfield 16, 3) := by decide +kernel
theorem dX3_meansLessGrief_14 : decode M_X3_meansLessGrief.2.1 14 = .ok (.getfield 145, 3) := by decide +kernel
theorem dX3_meansLessGrief_17 : decode M_X3_meansLessGrief.2.1 17 = .ok (.iload_n 1, 1) := by decide +kernel
theorem dX3_meansLessGrief_18 : decode M_X3_meansLessGrief.2.1 18 = .ok (.iaload, 1) := by decide +kernel
theorem dX3_meansLessGrief_19 : decode M_X3_meansLessGrief.2.1 19 = .ok (.aload_n 0, 1) := by decide +kernel
theorem dX3_meansLessGrief_20 : decode M_X3_meansLessGrief.2.1 20 = .ok (.getfield 10, 3) := by decide +kernel
theorem dX3_meansLessGrief_23 : decode M_X3_meansLessGrief.2.1 23 = .ok (.getfield 145, 3) := by decide +kernel
theorem dX3_meansLessGrief_26 : decode M_X3_meansLessGrief.2.1 26 = .ok (.iload_n 1, 1) := by decide +kernel
theorem dX3_meansLessGrief_27 : decode M_X3_meansLessGrief.2.1 27 = .ok (.iaload, 1) := by decide +kernel
theorem dX3_meansLessGrief_28 : decode M_X3_meansLessGrief.2.1 28 = .ok (.isub, 1) := by decide +kernel
theorem dX3_meansLessGrief_29 : decode M_X3_meansLessGrief.2.1 29 = .ok (.imul, 1) := by decide +kernel
theorem dX3_meansLessGrief_30 : decode M_X3_meansLessGrief.2.1 30 = .ok (.isub, 1) := by decide +kernel
theorem dX3_meansLessGrief_31 : decode M_X3_meansLessGrief.2.1 31 = .ok (.ireturn, 1) := by decide +kernel
def f_X3_meansLessGrief (a0 : Nat) (a1 : Int32) (w : aW) : Option (Int32 × aW) :=
  (gR 2 w a0 1).bind fun r1 =>
  (gR 0 w r1 9).bind fun r2 =>
  (gA w r2 a1).bind fun x3 =>
  (gR 2 w a0 1).bind fun r4 =>
  (gR 0 w r4 12).bind fun r5 =>
  (gA w r5 a1).bind fun x6 =>
  (gR 2 w a0 0).bind fun r7 =>
  (gR 0 w r7 12).bind fun r8 =>
  (gA w r8 a1).bind fun x9 =>
  some ((x3 - ((5 : Int32) * (x6 - x9))), w)
theorem s_X3_meansLessGrief (a0 : Nat) (a1 : Int32) (w : aW) : Sp rvI M_X3_meansLessGrief [.ref a0, .int a1] w (f_X3_meansLessGrief a0 a1 w) := by
  refine e_entry [some (.ref a0), some (.int a1)] (by decide +kernel) (Nat.le_of_ble_eq_true rfl) (fun _ => rfl) ?_
  unfold f_X3_meansLessGrief
  refine e_aload_n (pc := 0) dX3_meansLessGrief_0 rfl rfl ?_
  refine e_getR (pc := 1) dX3_meansLessGrief_1 hs_X3_16 (fun r1 => ?_)
  refine e_getR (pc := 4) dX3_meansLessGrief_4 hs_X3_142 (fun r2 => ?_)
  refine e_iload_n (pc := 7) dX3_meansLessGrief_7 rfl rfl ?_
  refine e_iald (pc := 8) dX3_meansLessGrief_8 (fun x3 => ?_)
  refine e_iconst (pc := 9) dX3_meansLessGrief_9 kc_5 ?_
  refine e_aload_n (pc := 10) dX3_meansLessGrief_10 rfl rfl ?_
  refine e_getR (pc := 11) dX3_meansLessGrief_11 hs_X3_16 (fun r4 => ?_)
  refine e_getR (pc := 14) dX3_meansLessGrief_14 hs_X3_145 (fun r5 => ?_)
  refine e_iload_n (pc := 17) dX3_meansLessGrief_17 rfl rfl ?_
  refine e_iald (pc := 18) dX3_meansLessGrief_18 (fun x6 => ?_)
  refine e_aload_n (pc := 19) dX3_meansLessGrief_19 rfl rfl ?_
  refine e_getR (pc := 20) dX3_meansLessGrief_20 hs_X3_10 (fun r7 => ?_)
  refine e_getR (pc := 23) dX3_meansLessGrief_23 hs_X3_145 (fun r8 => ?_)
  refine e_iload_n (pc := 26) dX3_meansLessGrief_26 rfl rfl ?_
  refine e_iald (pc := 27) dX3_meansLessGrief_27 (fun x9 => ?_)
  refine e_isub (pc := 28) dX3_meansLessGrief_28 ?_
  refine e_imul (pc := 29) dX3_meansLessGrief_29 ?_
  refine e_isub (pc := 30) dX3_meansLessGrief_30 ?_
  exact e_iret (pc := 31) dX3_meansLessGrief_31 rfl rfl
def M_X3_two : aM := (yX3_two, cX3_two, 5, (some .int), 5, 113)
theorem ok_X3_two : a_okM M_X3_two 3 := ⟨⟨by decide +kernel, by decide +kernel⟩, by decide +kernel, a_in 619 (by decide +kernel) rfl, a_in 76 (by decide +kernel) rfl⟩
theorem dX3_two_0 : decode M_X3_two.2.1 0 = .ok (.iload_n 1, 1) := by decide +kernel
theorem dX3_two_1 : decode M_X3_two.2.1 1 = .ok (.invokestatic 94, 3) := by decide +kernel
theorem dX3_two_4 : decode M_X3_two.2.1 4 = .ok (.ifCond .eq 25, 3) := by decide +kernel
theorem dX3_two_7 : decode M_X3_two.2.1 7 = .ok (.iload_n 2, 1) := by decide +kernel
theorem dX3_two_8 : decode M_X3_two.2.1 8 = .ok (.invokestatic 94, 3) := by decide +kernel
theorem dX3_two_11 : decode M_X3_two.2.1 11 = .ok (.ifCond .eq 18, 3) := by decide +kernel
theorem dX3_two_14 : decode M_X3_two.2.1 14 = .ok (.iload_n 1, 1) := by decide +kernel
theorem dX3_two_15 : decode M_X3_two.2.1 15 = .ok (.iload_n 2, 1) := by decide +kernel
theorem dX3_two_16 : decode M_X3_two.2.1 16 = .ok (.if_icmp .eq 13, 3) := by decide +kernel
theorem dX3_two_19 : decode M_X3_two.2.1 19 = .ok (.iload_n 3, 1) := by decide +kernel
theorem dX3_two_20 : decode M_X3_two.2.1 20 = .ok (.iconst 1, 1) := by decide +kernel
theorem dX3_two_21 : decode M_X3_two.2.1 21 = .ok (.bipush 30, 2) := by decide +kernel
theorem dX3_two_23 : decode M_X3_two.2.1 23 = .ok (.invokestatic 87, 3) := by decide +kernel
theorem dX3_two_26 : decode M_X3_two.2.1 26 = .ok (.ifCond .ne 5, 3) := by decide +kernel
theorem dX3_two_29 : decode M_X3_two.2.1 29 = .ok (.iconst (-1), 1) := by decide +kernel
theorem dX3_two_30 : decode M_X3_two.2.1 30 = .ok (.ireturn, 1) := by decide +kernel
theorem dX3_two_31 : decode M_X3_two.2.1 31 = .ok (.iconst 0, 1) := by decide +kernel
theorem dX3_two_32 : decode M_X3_two.2.1 32 = .ok (.istore 4, 2) := by decide +kernel
theorem dX3_two_34 : decode M_X3_two.2.1 34 = .ok (.iload 4, 2) := by decide +kernel
theorem dX3_two_36 : decode M_X3_two.2.1 36 = .ok (.iconst 4, 1) := by decide +kernel
theorem dX3_two_37 : decode M_X3_two.2.1 37 = .ok (.if_icmp .ge 105, 3) := by decide +kernel
theorem dX3_two_40 : decode M_X3_two.2.1 40 = .ok (.aload_n 0, 1) := by decide +kernel
theorem dX3_two_41 : decode M_X3_two.2.1 41 = .ok (.invokevirtual 56, 3) := by decide +kernel
theorem dX3_two_44 : decode M_X3_two.2.1 44 = .ok (.aload_n 0, 1) := by decide +kernel
theorem dX3_two_45 : decode M_X3_two.2.1 45 = .ok (.getfield 16, 3) := by decide +kernel
theorem dX3_two_48 : decode M_X3_two.2.1 48 = .ok (.getfield 205, 3) := by decide +kernel
theorem dX3_two_51 : decode M_X3_two.2.1 51 = .ok (.iload_n 1, 1) := by decide +kernel
theorem dX3_two_52 : decode M_X3_two.2.1 52 = .ok (.iload 4, 2) := by decide +kernel
theorem dX3_two_54 : decode M_X3_two.2.1 54 = .ok (.iconst 2, 1) := by decide +kernel
theorem dX3_two_55 : decode M_X3_two.2.1 55 = .ok (.idiv, 1) := by decide +kernel
theorem dX3_two_56 : decode M_X3_two.2.1 56 = .ok (.iconst 1, 1) := by decide +kernel
theorem dX3_two_57 : decode M_X3_two.2.1 57 = .ok (.if_icmp .ne 15, 3) := by decide +kernel
theorem dX3_two_60 : decode M_X3_two.2.1 60 = .ok (.aload_n 0, 1) := by decide +kernel
theorem dX3_two_61 : decode M_X3_two.2.1 61 = .ok (.getfield 10, 3) := by decide +kernel
theorem dX3_two_64 : decode M_X3_two.2.1 64 = .ok (.getfield 205, 3) := by decide +kernel
theorem dX3_two_67 : decode M_X3_two.2.1 67 = .ok (.iload_n 1, 1) := by decide +kernel
theorem dX3_two_68 : decode M_X3_two.2.1 68 = .ok (.iaload, 1) := by decide +kernel
theorem dX3_two_69 : decode M_X3_two.2.1 69 = .ok (.goto 4, 3) := by decide +kernel
theorem dX3_two_72 : decode M_X3_two.2.1 72 = .ok (.iconst 0, 1) := by decide +kernel
theorem dX3_two_73 : decode M_X3_two.2.1 73 = .ok (.iastore, 1) := by decide +kernel
theorem dX3_two_74 : decode M_X3_two.2.1 74 = .ok (.aload_n 0, 1) := by decide +kernel
theorem dX3_two_75 : decode M_X3_two.2.1 75 = .ok (.getfield 16, 3) := by decide +kernel
theorem dX3_two_78 : decode M_X3_two.2.1 78 = .ok (.getfield 205, 3) := by decide +kernel
theorem dX3_two_81 : decode M_X3_two.2.1 81 = .ok (.iload_n 2, 1) := by decide +kernel
theorem dX3_two_82 : decode M_X3_two.2.1 82 = .ok (.iload 4, 2) := by decide +kernel
theorem dX3_two_84 : decode M_X3_two.2.1 84 = .ok (.iconst 2, 1) := by decide +kernel
theorem dX3_two_85 : decode M_X3_two.2.1 85 = .ok (.irem, 1) := by decide +kernel
theorem dX3_two_86 : decode M_X3_two.2.1 86 = .ok (.iconst 1, 1) := by decide +kernel
theorem dX3_two_87 : decode M_X3_two.2.1 87 = .ok (.if_icmp .ne 15, 3) := by decide +kernel
theorem dX3_two_90 : decode M_X3_two.2.1 90 = .ok (.aload_n 0, 1) := by decide +kernel
theorem dX3_two_91 : decode M_X3_two.2.1 91 = .ok (.getfield 10, 3) := by decide +kernel
theorem dX3_two_94 : decode M_X3_two.2.1 94 = .ok (.getfield 205, 3) := by decide +kernel
theorem dX3_two_97 : decode M_X3_two.2.1 97 = .ok (.iload_n 2, 1) := by decide +kernel
theorem dX3_two_98 : decode M_X3_two.2.1 98 = .ok (.iaload, 1) := by decide +kernel
theorem dX3_two_99 : decode M_X3_two.2.1 99 = .ok (.goto 4, 3) := by decide +kernel
theorem dX3_two_102 : decode M_X3_two.2.1 102 = .ok (.iconst 0, 1) := by decide +kernel
theorem dX3_two_103 : decode M_X3_two.2.1 103 = .ok (.iastore, 1) := by decide +kernel
theorem dX3_two_104 : decode M_X3_two.2.1 104 = .ok (.aload_n 0, 1) := by decide +kernel
theorem dX3_two_105 : decode M_X3_two.2.1 105 = .ok (.getfield 16, 3) := by decide +kernel
theorem dX3_two_108 : decode M_X3_two.2.1 108 = .ok (.iload_n 3, 1) := by decide +kernel
theorem dX3_two_109 : decode M_X3_two.2.1 109 = .ok (.invokevirtual 138, 3) := by decide +kernel
theorem dX3_two_112 : decode M_X3_two.2.1 112 = .ok (.aload_n 0, 1) := by decide +kernel
theorem dX3_two_113 : decode M_X3_two.2.1 113 = .ok (.getfield 32, 3) := by decide +kernel
theorem dX3_two_116 : decode M_X3_two.2.1 116 = .ok (.iload 4, 2) := by decide +kernel
theorem dX3_two_118 : decode M_X3_two.2.1 118 = .ok (.aload_n 0, 1) := by decide +kernel
theorem dX3_two_119 : decode M_X3_two.2.1 119 = .ok (.iload_n 1, 1) := by decide +kernel
theorem dX3_two_120 : decode M_X3_two.2.1 120 = .ok (.invokevirtual 243, 3) := by decide +kernel
theorem dX3_two_123 : decode M_X3_two.2.1 123 = .ok (.iastore, 1) := by decide +kernel
theorem dX3_two_124 : decode M_X3_two.2.1 124 = .ok (.aload_n 0, 1) := by decide +kernel
theorem dX3_two_125 : decode M_X3_two.2.1 125 = .ok (.getfield 36, 3) := by decide +kernel
theorem dX3_two_128 : decode M_X3_two.2.1 128 = .ok (.iload 4, 2) := by decide +kernel
theorem dX3_two_130 : decode M_X3_two.2.1 130 = .ok (.aload_n 0, 1) := by decide +kernel
theorem dX3_two_131 : decode M_X3_two.2.1 131 = .ok (.iload_n 2, 1) := by decide +kernel
theorem dX3_two_132 : decode M_X3_two.2.1 132 = .ok (.invokevirtual 243, 3) := by decide +kernel
theorem dX3_two_135 : decode M_X3_two.2.1 135 = .ok (.iastore, 1) := by decide +kernel
theorem dX3_two_136 : decode M_X3_two.2.1 136 = .ok (.iinc 4 1, 3) := by decide +kernel
theorem dX3_two_139 : decode M_X3_two.2.1 139 = .ok (.goto (-105), 3) := by decide +kernel
theorem dX3_two_142 : decode M_X3_two.2.1 142 = .ok (.iconst 0, 1) := by decide +kernel
theorem dX3_two_143 : decode M_X3_two.2.1 143 = .ok (.istore 4, 2) := by decide +kernel
theorem dX3_two_145 : decode M_X3_two.2.1 145 = .ok (.iload 4, 2) := by decide +kernel
theorem dX3_two_147 : decode M_X3_two.2.1 147 = .ok (.iconst 4, 1) := by decide +kernel
theorem dX3_two_148 : decode M_X3_two.2.1 148 = .ok (.if_icmp .ge 60, 3) := by decide +kernel
theorem dX3_two_151 : decode M_X3_two.2.1 151 = .ok (.aload_n 0, 1) := by decide +kernel
theorem dX3_two_152 : decode M_X3_two.2.1 152 = .ok (.getfield 32, 3) := by decide +kernel
theorem dX3_two_155 : decode M_X3_two.2.1 155 = .ok (.iload 4, 2) := by decide +kernel
theorem dX3_two_157 : decode M_X3_two.2.1 157 = .ok (.iaload, 1) := by decide +kernel
theorem dX3_two_158 : decode M_X3_two.2.1 158 = .ok (.aload_n 0, 1) := by decide +kernel
theorem dX3_two_159 : decode M_X3_two.2.1 159 = .ok (.getfield 32, 3) := by decide +kernel
theorem dX3_two_162 : decode M_X3_two.2.1 162 = .ok (.iload 4, 2) := by decide +kernel
theorem dX3_two_164 : decode M_X3_two.2.1 164 = .ok (.iconst 2, 1) := by decide +kernel
theorem dX3_two_165 : decode M_X3_two.2.1 165 = .ok (.ixor, 1) := by decide +kernel
theorem dX3_two_166 : decode M_X3_two.2.1 166 = .ok (.iaload, 1) := by decide +kernel
theorem dX3_two_167 : decode M_X3_two.2.1 167 = .ok (.if_icmp .lt 35, 3) := by decide +kernel
theorem dX3_two_170 : decode M_X3_two.2.1 170 = .ok (.aload_n 0, 1) := by decide +kernel
theorem dX3_two_171 : decode M_X3_two.2.1 171 = .ok (.getfield 36, 3) := by decide +kernel
theorem dX3_two_174 : decode M_X3_two.2.1 174 = .ok (.iload 4, 2) := by decide +kernel
theorem dX3_two_176 : decode M_X3_two.2.1 176 = .ok (.iaload, 1) := by decide +kernel
theorem dX3_two_177 : decode M_X3_two.2.1 177 = .ok (.aload_n 0, 1) := by decide +kernel
theorem dX3_two_178 : decode M_X3_two.2.1 178 = .ok (.getfield 36, 3) := by decide +kernel
theorem dX3_two_181 : decode M_X3_two.2.1 181 = .ok (.iload 4, 2) := by decide +kernel
theorem dX3_two_183 : decode M_X3_two.2.1 183 = .ok (.iconst 1, 1) := by decide +kernel
theorem dX3_two_184 : decode M_X3_two.2.1 184 = .ok (.ixor, 1) := by decide +kernel
theorem dX3_two_185 : decode M_X3_two.2.1 185 = .ok (.iaload, 1) := by decide +kernel
theorem dX3_two_186 : decode M_X3_two.2.1 186 = .ok (.if_icmp .lt 16, 3) := by decide +kernel
theorem dX3_two_189 : decode M_X3_two.2.1 189 = .ok (.bipush 10, 2) := by decide +kernel
theorem dX3_two_191 : decode M_X3_two.2.1 191 = .ok (.iload 4, 2) := by decide +kernel
theorem dX3_two_193 : decode M_X3_two.2.1 193 = .ok (.iconst 2, 1) := by decide +kernel
theorem dX3_two_194 : decode M_X3_two.2.1 194 = .ok (.idiv, 1) := by decide +kernel
theorem dX3_two_195 : decode M_X3_two.2.1 195 = .ok (.imul, 1) := by decide +kernel
theorem dX3_two_196 : decode M_X3_two.2.1 196 = .ok (.iload 4, 2) := by decide +kernel
theorem dX3_two_198 : decode M_X3_two.2.1 198 = .ok (.iconst 2, 1) := by decide +kernel
theorem dX3_two_199 : decode M_X3_two.2.1 199 = .ok (.irem, 1) := by decide +kernel
theorem dX3_two_200 : decode M_X3_two.2.1 200 = .ok (.iadd, 1) := by decide +kernel
theorem dX3_two_201 : decode M_X3_two.2.1 201 = .ok (.ireturn, 1) := by decide +kernel
theorem dX3_two_202 : decode M_X3_two.2.1 202 = .ok (.iinc 4 1, 3) := by decide +kernel
theorem dX3_two_205 : decode M_X3_two.2.1 205 = .ok (.goto (-60), 3) := by decide +kernel
theorem dX3_two_208 : decode M_X3_two.2.1 208 = .ok (.bipush (-4), 2) := by decide +kernel
theorem dX3_two_210 : decode M_X3_two.2.1 210 = .ok (.ireturn, 1) := by decide +kernel
theorem hs_X3_32 : a_fs RX3 32 2 5 := ⟨RX3, TX3, 7, rfl, tin_X3, by decide, a_in 195 (by decide +kernel) rfl⟩
theorem hs_X3_36 : a_fs RX3 36 2 6 := ⟨RX3, TX3, 7, rfl, tin_X3, by decide, a_in 196 (by decide +kernel) rfl⟩
theorem hv_X3_243 : a_okV RX3 M_X3_meansLessGrief 243 := ⟨a_in 620 (by decide +kernel) rfl, a_in 622 (by decide +kernel) rfl, a_in 19 (by decide +kernel) rfl⟩
def c_X3_two_145 (a0 : Nat) (a1 : Int32) (a2 : Int32) (a3 : Int32) (k145 : Int32 → aW → Option (Int32 × aW)) (b4 : Int32) (w : aW) : Option (Int32 × aW) :=
  if (4 : Int32) ≤ b4 then
    some ((-4 : Int32), w)
  else
    (gR 2 w a0 5).bind fun r13 =>
    (gA w r13 b4).bind fun x14 =>
    (gR 2 w a0 5).bind fun r15 =>
    (gA w r15 (b4 ^^^ (2 : Int32))).bind fun x16 =>
    if x14 < x16 then
      k145 (b4 + 1) w
    else
      (gR 2 w a0 6).bind fun r17 =>
      (gA w r17 b4).bind fun x18 =>
      (gR 2 w a0 6).bind fun r19 =>
      (gA w r19 (b4 ^^^ (1 : Int32))).bind fun x20 =>
      if x18 < x20 then
        k145 (b4 + 1) w
      else
        some ((((10 : Int32) * (b4 / (2 : Int32))) + (b4 - b4 / (2 : Int32) * (2 : Int32))), w)
theorem t_X3_two_145 (a0 : Nat) (a1 : Int32) (a2 : Int32) (a3 : Int32) (k145 : Int32 → aW → Option (Int32 × aW)) (hk145 : ∀ (b4 : Int32) (w : aW), Ev rvI M_X3_two 145 [some (.ref a0), none, none, none, some (.int b4)] [] w (k145 b4 w)) (b4 : Int32) (w : aW) : Ev rvI M_X3_two 145 [some (.ref a0), none, none, none, some (.int b4)] [] w (c_X3_two_145 a0 a1 a2 a3 k145 b4 w) := by
  unfold c_X3_two_145
  refine e_iload (pc := 145) dX3_two_145 rfl ?_
  refine e_iconst (pc := 147) dX3_two_147 kc_4 ?_
  refine e_icmp_ge (pc := 148) (tgt := 208) dX3_two_148 (by decide) (fun _ => ?_) (fun _ => ?_)
  · refine e_bipush (pc := 208) dX3_two_208 kb_m4 ?_
    exact e_iret (pc := 210) dX3_two_210 rfl rfl
  · refine e_aload_n (pc := 151) dX3_two_151 rfl rfl ?_
    refine e_getR (pc := 152) dX3_two_152 hs_X3_32 (fun r13 => ?_)
    refine e_iload (pc := 155) dX3_two_155 rfl ?_
    refine e_iald (pc := 157) dX3_two_157 (fun x14 => ?_)
    refine e_aload_n (pc := 158) dX3_two_158 rfl rfl ?_
    refine e_getR (pc := 159) dX3_two_159 hs_X3_32 (fun r15 => ?_)
    refine e_iload (pc := 162) dX3_two_162 rfl ?_
    refine e_iconst (pc := 164) dX3_two_164 kc_2 ?_
    refine e_ixor (pc := 165) dX3_two_165 ?_
    refine e_iald (pc := 166) dX3_two_166 (fun x16 => ?_)
    refine e_icmp_lt (pc := 167) (tgt := 202) dX3_two_167 (by decide) (fun _ => ?_) (fun _ => ?_)
    · refine e_iinc (L' := [some (.ref a0), none, none, none, some (.int (b4 + 1))]) (pc := 202) (v := 1) dX3_two_202 (by decide) rfl kc_1 rfl ?_
      refine e_goto (pc := 205) (tgt := 145) dX3_two_205 (by decide) ?_
      exact hk145 (b4 + 1) w
    · refine e_aload_n (pc := 170) dX3_two_170 rfl rfl ?_
      refine e_getR (pc := 171) dX3_two_171 hs_X3_36 (fun r17 => ?_)
      refine e_iload (pc := 174) dX3_two_174 rfl ?_
      refine e_iald (pc := 176) dX3_two_176 (fun x18 => ?_)
      refine e_aload_n (pc := 177) dX3_two_177 rfl rfl ?_
      refine e_getR (pc := 178) dX3_two_178 hs_X3_36 (fun r19 => ?_)
      refine e_iload (pc := 181) dX3_two_181 rfl ?_
      refine e_iconst (pc := 183) dX3_two_183 kc_1 ?_
      refine e_ixor (pc := 184) dX3_two_184 ?_
      refine e_iald (pc := 185) dX3_two_185 (fun x20 => ?_)
      refine e_icmp_lt (pc := 186) (tgt := 202) dX3_two_186 (by decide) (fun _ => ?_) (fun _ => ?_)
      · refine e_iinc (L' := [some (.ref a0), none, none, none, some (.int (b4 + 1))]) (pc := 202) (v := 1) dX3_two_202 (by decide) rfl kc_1 rfl ?_
        refine e_goto (pc := 205) (tgt := 145) dX3_two_205 (by decide) ?_
        exact hk145 (b4 + 1) w
      · refine e_bipush (pc := 189) dX3_two_189 kb_10 ?_
        refine e_iload (pc := 191) dX3_two_191 rfl ?_
        refine e_iconst (pc := 193) dX3_two_193 kc_2 ?_
        refine e_idiv (pc := 194) dX3_two_194 (by decide) ?_
        refine e_imul (pc := 195) dX3_two_195 ?_
        refine e_iload (pc := 196) dX3_two_196 rfl ?_
        refine e_iconst (pc := 198) dX3_two_198 kc_2 ?_
        refine e_irem (pc := 199) dX3_two_199 (by decide) ?_
        refine e_iadd (pc := 200) dX3_two_200 ?_
        exact e_iret (pc := 201) dX3_two_201 rfl rfl
def c_X3_two_103 (a0 : Nat) (a1 : Int32) (a2 : Int32) (a3 : Int32) (k34 : Int32 → aW → Option (Int32 × aW)) (b4 : Int32) (s0 : Int32) (s1 : Int32) (s2 : Nat) (w : aW) : Option (Int32 × aW) :=
  (sA w s2 s1 s0).bind fun w27 =>
  (gR 2 w27 a0 1).bind fun r28 =>
  cV 0 w27 r28 (bk (f_X0_passDays r28 a3 w27) fun _ w29 =>
  (gR 2 w29 a0 5).bind fun r30 =>
  cV 2 w29 a0 (bk (f_X3_meansLessGrief a0 a1 w29) fun x32 w31 =>
  (sA w31 r30 b4 x32).bind fun w33 =>
  (gR 2 w33 a0 6).bind fun r34 =>
  cV 2 w33 a0 (bk (f_X3_meansLessGrief a0 a2 w33) fun x36 w35 =>
  (sA w35 r34 b4 x36).bind fun w37 =>
  k34 (b4 + 1) w37)))
theorem t_X3_two_103 (a0 : Nat) (a1 : Int32) (a2 : Int32) (a3 : Int32) (k34 : Int32 → aW → Option (Int32 × aW)) (hk34 : ∀ (b4 : Int32) (w : aW), Ev rvI M_X3_two 34 [some (.ref a0), some (.int a1), some (.int a2), some (.int a3), some (.int b4)] [] w (k34 b4 w)) (b4 : Int32) (s0 : Int32) (s1 : Int32) (s2 : Nat) (w : aW) : Ev rvI M_X3_two 103 [some (.ref a0), some (.int a1), some (.int a2), some (.int a3), some (.int b4)] [.int s0, .int s1, .ref s2] w (c_X3_two_103 a0 a1 a2 a3 k34 b4 s0 s1 s2 w) := by
  unfold c_X3_two_103
  refine e_iast (pc := 103) dX3_two_103 (fun w27 => ?_)
  refine e_aload_n (pc := 104) dX3_two_104 rfl rfl ?_
  refine e_getR (pc := 105) dX3_two_105 hs_X3_16 (fun r28 => ?_)
  refine e_iload_n (pc := 108) dX3_two_108 rfl rfl ?_
  refine e_callV (pc := 109) (av := [.int a3]) (S := []) (c0 := 0) rfl rfl ok_X0_passDays ⟨Nat.le_of_ble_eq_true rfl, Nat.le_of_ble_eq_true rfl⟩ hv_X3_138 dX3_two_109 (s_X0_passDays r28 a3 w27) rfl rfl (Nat.le_of_ble_eq_true rfl) (fun _ w29 => ?_)
  refine e_aload_n (pc := 112) dX3_two_112 rfl rfl ?_
  refine e_getR (pc := 113) dX3_two_113 hs_X3_32 (fun r30 => ?_)
  refine e_iload (pc := 116) dX3_two_116 rfl ?_
  refine e_aload_n (pc := 118) dX3_two_118 rfl rfl ?_
  refine e_iload_n (pc := 119) dX3_two_119 rfl rfl ?_
  refine e_callV (pc := 120) (av := [.int a1]) (S := [.int b4, .ref r30]) (c0 := 2) rfl rfl ok_X3_meansLessGrief ⟨Nat.le_of_ble_eq_true rfl, Nat.le_of_ble_eq_true rfl⟩ hv_X3_243 dX3_two_120 (s_X3_meansLessGrief a0 a1 w29) rfl rfl (Nat.le_of_ble_eq_true rfl) (fun x32 w31 => ?_)
  refine e_iast (pc := 123) dX3_two_123 (fun w33 => ?_)
  refine e_aload_n (pc := 124) dX3_two_124 rfl rfl ?_
  refine e_getR (pc := 125) dX3_two_125 hs_X3_36 (fun r34 => ?_)
  refine e_iload (pc := 128) dX3_two_128 rfl ?_
  refine e_aload_n (pc := 130) dX3_two_130 rfl rfl ?_
  refine e_iload_n (pc := 131) dX3_two_131 rfl rfl ?_
  refine e_callV (pc := 132) (av := [.int a2]) (S := [.int b4, .ref r34]) (c0 := 2) rfl rfl ok_X3_meansLessGrief ⟨Nat.le_of_ble_eq_true rfl, Nat.le_of_ble_eq_true rfl⟩ hv_X3_243 dX3_two_132 (s_X3_meansLessGrief a0 a2 w33) rfl rfl (Nat.le_of_ble_eq_true rfl) (fun x36 w35 => ?_)
  refine e_iast (pc := 135) dX3_two_135 (fun w37 => ?_)
  refine e_iinc (L' := [some (.ref a0), some (.int a1), some (.int a2), some (.int a3), some (.int (b4 + 1))]) (pc := 136) (v := 1) dX3_two_136 (by decide) rfl kc_1 rfl ?_
  refine e_goto (pc := 139) (tgt := 34) dX3_two_139 (by decide) ?_
  exact hk34 (b4 + 1) w37
def c_X3_two_73 (a0 : Nat) (a1 : Int32) (a2 : Int32) (a3 : Int32) (k34 : Int32 → aW → Option (Int32 × aW)) (b4 : Int32) (s0 : Int32) (s1 : Int32) (s2 : Nat) (w : aW) : Option (Int32 × aW) :=
  (sA w s2 s1 s0).bind fun w21 =>
  (gR 2 w21 a0 1).bind fun r22 =>
  (gR 0 w21 r22 11).bind fun r23 =>
  if ¬ (b4 - b4 / (2 : Int32) * (2 : Int32)) = (1 : Int32) then
    c_X3_two_103 a0 a1 a2 a3 k34 b4 (0 : Int32) a2 r23 w21
  else
    (gR 2 w21 a0 0).bind fun r24 =>
    (gR 0 w21 r24 11).bind fun r25 =>
    (gA w21 r25 a2).bind fun x26 =>
    c_X3_two_103 a0 a1 a2 a3 k34 b4 x26 a2 r23 w21
theorem t_X3_two_73 (a0 : Nat) (a1 : Int32) (a2 : Int32) (a3 : Int32) (k34 : Int32 → aW → Option (Int32 × aW)) (hk34 : ∀ (b4 : Int32) (w : aW), Ev rvI M_X3_two 34 [some (.ref a0), some (.int a1), some (.int a2), some (.int a3), some (.int b4)] [] w (k34 b4 w)) (b4 : Int32) (s0 : Int32) (s1 : Int32) (s2 : Nat) (w : aW) : Ev rvI M_X3_two 73 [some (.ref a0), some (.int a1), some (.int a2), some (.int a3), some (.int b4)] [.int s0, .int s1, .ref s2] w (c_X3_two_73 a0 a1 a2 a3 k34 b4 s0 s1 s2 w) := by
  unfold c_X3_two_73
  refine e_iast (pc := 73) dX3_two_73 (fun w21 => ?_)
  refine e_aload_n (pc := 74) dX3_two_74 rfl rfl ?_
  refine e_getR (pc := 75) dX3_two_75 hs_X3_16 (fun r22 => ?_)
  refine e_getR (pc := 78) dX3_two_78 hs_X3_205 (fun r23 => ?_)
  refine e_iload_n (pc := 81) dX3_two_81 rfl rfl ?_
  refine e_iload (pc := 82) dX3_two_82 rfl ?_
  refine e_iconst (pc := 84) dX3_two_84 kc_2 ?_
  refine e_irem (pc := 85) dX3_two_85 (by decide) ?_
  refine e_iconst (pc := 86) dX3_two_86 kc_1 ?_
  refine e_icmp_ne (pc := 87) (tgt := 102) dX3_two_87 (by decide) (fun _ => ?_) (fun _ => ?_)
  · refine e_iconst (pc := 102) dX3_two_102 kc_0 ?_
    exact t_X3_two_103 a0 a1 a2 a3 k34 hk34 b4 (0 : Int32) a2 r23 w21
  · refine e_aload_n (pc := 90) dX3_two_90 rfl rfl ?_
    refine e_getR (pc := 91) dX3_two_91 hs_X3_10 (fun r24 => ?_)
    refine e_getR (pc := 94) dX3_two_94 hs_X3_205 (fun r25 => ?_)
    refine e_iload_n (pc := 97) dX3_two_97 rfl rfl ?_
    refine e_iald (pc := 98) dX3_two_98 (fun x26 => ?_)
    refine e_goto (pc := 99) (tgt := 103) dX3_two_99 (by decide) ?_
    exact t_X3_two_103 a0 a1 a2 a3 k34 hk34 b4 x26 a2 r23 w21
def c_X3_two_34 (a0 : Nat) (a1 : Int32) (a2 : Int32) (a3 : Int32) (k34 : Int32 → aW → Option (Int32 × aW)) (b4 : Int32) (w : aW) : Option (Int32 × aW) :=
  if (4 : Int32) ≤ b4 then
    loop2 (c_X3_two_145 a0 a1 a2 a3) a_fuel (0 : Int32) w
  else
    cV 2 w a0 (bk (f_X3_think a0 w) fun _ w7 =>
    (gR 2 w7 a0 1).bind fun r8 =>
    (gR 0 w7 r8 11).bind fun r9 =>
    if ¬ (b4 / (2 : Int32)) = (1 : Int32) then
      c_X3_two_73 a0 a1 a2 a3 k34 b4 (0 : Int32) a1 r9 w7
    else
      (gR 2 w7 a0 0).bind fun r10 =>
      (gR 0 w7 r10 11).bind fun r11 =>
      (gA w7 r11 a1).bind fun x12 =>
      c_X3_two_73 a0 a1 a2 a3 k34 b4 x12 a1 r9 w7)
theorem t_X3_two_34 (a0 : Nat) (a1 : Int32) (a2 : Int32) (a3 : Int32) (k34 : Int32 → aW → Option (Int32 × aW)) (hk34 : ∀ (b4 : Int32) (w : aW), Ev rvI M_X3_two 34 [some (.ref a0), some (.int a1), some (.int a2), some (.int a3), some (.int b4)] [] w (k34 b4 w)) (b4 : Int32) (w : aW) : Ev rvI M_X3_two 34 [some (.ref a0), some (.int a1), some (.int a2), some (.int a3), some (.int b4)] [] w (c_X3_two_34 a0 a1 a2 a3 k34 b4 w) := by
  unfold c_X3_two_34
  refine e_iload (pc := 34) dX3_two_34 rfl ?_
  refine e_iconst (pc := 36) dX3_two_36 kc_4 ?_
  refine e_icmp_ge (pc := 37) (tgt := 142) dX3_two_37 (by decide) (fun _ => ?_) (fun _ => ?_)
  · refine e_iconst (pc := 142) dX3_two_142 kc_0 ?_
    refine e_istore (L' := [some (.ref a0), some (.int a1), some (.int a2), some (.int a3), some (.int (0 : Int32))]) (pc := 143) dX3_two_143 (by decide) rfl ?_
    refine e_forget (L2 := [some (.ref a0), none, none, none, some (.int (0 : Int32))]) (And.intro rfl (And.intro rfl trivial)) ?_
    exact e_loop2 (L := fun b4 => [some (.ref a0), none, none, none, some (.int b4)]) (S := fun b4 => []) (fun kf hkf => t_X3_two_145 a0 a1 a2 a3  kf hkf) _ (0 : Int32) w
  · refine e_aload_n (pc := 40) dX3_two_40 rfl rfl ?_
    refine e_callV (pc := 41) (av := []) (S := []) (c0 := 2) rfl rfl ok_X3_think ⟨Nat.le_of_ble_eq_true rfl, Nat.le_of_ble_eq_true rfl⟩ hv_X3_56 dX3_two_41 (s_X3_think a0 w) rfl rfl (Nat.le_of_ble_eq_true rfl) (fun _ w7 => ?_)
    refine e_aload_n (pc := 44) dX3_two_44 rfl rfl ?_
    refine e_getR (pc := 45) dX3_two_45 hs_X3_16 (fun r8 => ?_)
    refine e_getR (pc := 48) dX3_two_48 hs_X3_205 (fun r9 => ?_)
    refine e_iload_n (pc := 51) dX3_two_51 rfl rfl ?_
    refine e_iload (pc := 52) dX3_two_52 rfl ?_
    refine e_iconst (pc := 54) dX3_two_54 kc_2 ?_
    refine e_idiv (pc := 55) dX3_two_55 (by decide) ?_
    refine e_iconst (pc := 56) dX3_two_56 kc_1 ?_
    refine e_icmp_ne (pc := 57) (tgt := 72) dX3_two_57 (by decide) (fun _ => ?_) (fun _ => ?_)
    · refine e_iconst (pc := 72) dX3_two_72 kc_0 ?_
      exact t_X3_two_73 a0 a1 a2 a3 k34 hk34 b4 (0 : Int32) a1 r9 w7
    · refine e_aload_n (pc := 60) dX3_two_60 rfl rfl ?_
      refine e_getR (pc := 61) dX3_two_61 hs_X3_10 (fun r10 => ?_)
      refine e_getR (pc := 64) dX3_two_64 hs_X3_205 (fun r11 => ?_)
      refine e_iload_n (pc := 67) dX3_two_67 rfl rfl ?_
      refine e_iald (pc := 68) dX3_two_68 (fun x12 => ?_)
      refine e_goto (pc := 69) (tgt := 73) dX3_two_69 (by decide) ?_
      exact t_X3_two_73 a0 a1 a2 a3 k34 hk34 b4 x12 a1 r9 w7
def f_X3_two (a0 : Nat) (a1 : Int32) (a2 : Int32) (a3 : Int32) (w : aW) : Option (Int32 × aW) :=
  bk (f_X3_isPerson a1 w) fun x2 w1 =>
  if x2 = (0 : Int32) then
    some ((-1 : Int32), w1)
  else
    bk (f_X3_isPerson a2 w1) fun x4 w3 =>
    if x4 = (0 : Int32) then
      some ((-1 : Int32), w3)
    else
      if a1 = a2 then
        some ((-1 : Int32), w3)
      else
        bk (f_X3_within a3 (1 : Int32) (30 : Int32) w3) fun x6 w5 =>
        if ¬ x6 = (0 : Int32) then
          loop2 (c_X3_two_34 a0 a1 a2 a3) a_fuel (0 : Int32) w5
        else
          some ((-1 : Int32), w5)
theorem s_X3_two (a0 : Nat) (a1 : Int32) (a2 : Int32) (a3 : Int32) (w : aW) : Sp rvI M_X3_two [.ref a0, .int a1, .int a2, .int a3] w (f_X3_two a0 a1 a2 a3 w) := by
  refine e_entry [some (.ref a0), some (.int a1), some (.int a2), some (.int a3), none] (by decide +kernel) (Nat.le_of_ble_eq_true rfl) (fun _ => rfl) ?_
  unfold f_X3_two
  refine e_iload_n (pc := 0) dX3_two_0 rfl rfl ?_
  refine e_callS (pc := 1) (av := [.int a1]) (S := []) ok_X3_isPerson ⟨Nat.le_of_ble_eq_true rfl, Nat.le_of_ble_eq_true rfl⟩ ht_X3_94 dX3_two_1 (s_X3_isPerson a1 w) rfl rfl (Nat.le_of_ble_eq_true rfl) (fun x2 w1 => ?_)
  refine e_if_eq (pc := 4) (tgt := 29) dX3_two_4 (by decide) (fun _ => ?_) (fun _ => ?_)
  · refine e_iconst (pc := 29) dX3_two_29 kc_m1 ?_
    exact e_iret (pc := 30) dX3_two_30 rfl rfl
  · refine e_iload_n (pc := 7) dX3_two_7 rfl rfl ?_
    refine e_callS (pc := 8) (av := [.int a2]) (S := []) ok_X3_isPerson ⟨Nat.le_of_ble_eq_true rfl, Nat.le_of_ble_eq_true rfl⟩ ht_X3_94 dX3_two_8 (s_X3_isPerson a2 w1) rfl rfl (Nat.le_of_ble_eq_true rfl) (fun x4 w3 => ?_)
    refine e_if_eq (pc := 11) (tgt := 29) dX3_two_11 (by decide) (fun _ => ?_) (fun _ => ?_)
    · refine e_iconst (pc := 29) dX3_two_29 kc_m1 ?_
      exact e_iret (pc := 30) dX3_two_30 rfl rfl
    · refine e_iload_n (pc := 14) dX3_two_14 rfl rfl ?_
      refine e_iload_n (pc := 15) dX3_two_15 rfl rfl ?_
      refine e_icmp_eq (pc := 16) (tgt := 29) dX3_two_16 (by decide) (fun _ => ?_) (fun _ => ?_)
      · refine e_iconst (pc := 29) dX3_two_29 kc_m1 ?_
        exact e_iret (pc := 30) dX3_two_30 rfl rfl
      · refine e_iload_n (pc := 19) dX3_two_19 rfl rfl ?_
        refine e_iconst (pc := 20) dX3_two_20 kc_1 ?_
        refine e_bipush (pc := 21) dX3_two_21 kb_30 ?_
        refine e_callS (pc := 23) (av := [.int a3, .int (1 : Int32), .int (30 : Int32)]) (S := []) ok_X3_within ⟨Nat.le_of_ble_eq_true rfl, Nat.le_of_ble_eq_true rfl⟩ ht_X3_87 dX3_two_23 (s_X3_within a3 (1 : Int32) (30 : Int32) w3) rfl rfl (Nat.le_of_ble_eq_true rfl) (fun x6 w5 => ?_)
        refine e_if_ne (pc := 26) (tgt := 31) dX3_two_26 (by decide) (fun _ => ?_) (fun _ => ?_)
        · refine e_iconst (pc := 31) dX3_two_31 kc_0 ?_
          refine e_istore (L' := [some (.ref a0), some (.int a1), some (.int a2), some (.int a3), some (.int (0 : Int32))]) (pc := 32) dX3_two_32 (by decide) rfl ?_
          exact e_loop2 (L := fun b4 => [some (.ref a0), some (.int a1), some (.int a2), some (.int a3), some (.int b4)]) (S := fun b4 => []) (fun kf hkf => t_X3_two_34 a0 a1 a2 a3  kf hkf) _ (0 : Int32) w5
        · refine e_iconst (pc := 29) dX3_two_29 kc_m1 ?_
          exact e_iret (pc := 30) dX3_two_30 rfl rfl
def M_X3_livesThrough : aM := (yX3_livesThrough, cX3_livesThrough, 5, (some .boolean), 4, 101)
theorem ok_X3_livesThrough : a_okM M_X3_livesThrough 3 := ⟨⟨by decide +kernel, by decide +kernel⟩, by decide +kernel, a_in 632 (by decide +kernel) rfl, a_in 76 (by decide +kernel) rfl⟩
theorem dX3_livesThrough_0 : decode M_X3_livesThrough.2.1 0 = .ok (.aload_n 0, 1) := by decide +kernel
theorem dX3_livesThrough_1 : decode M_X3_livesThrough.2.1 1 = .ok (.invokevirtual 56, 3) := by decide +kernel
theorem dX3_livesThrough_4 : decode M_X3_livesThrough.2.1 4 = .ok (.iconst 0, 1) := by decide +kernel
theorem dX3_livesThrough_5 : decode M_X3_livesThrough.2.1 5 = .ok (.istore 4, 2) := by decide +kernel
theorem dX3_livesThrough_7 : decode M_X3_livesThrough.2.1 7 = .ok (.iload 4, 2) := by decide +kernel
theorem dX3_livesThrough_9 : decode M_X3_livesThrough.2.1 9 = .ok (.iload_n 2, 1) := by decide +kernel
theorem dX3_livesThrough_10 : decode M_X3_livesThrough.2.1 10 = .ok (.if_icmp .ge 30, 3) := by decide +kernel
theorem dX3_livesThrough_13 : decode M_X3_livesThrough.2.1 13 = .ok (.aload_n 0, 1) := by decide +kernel
theorem dX3_livesThrough_14 : decode M_X3_livesThrough.2.1 14 = .ok (.getfield 16, 3) := by decide +kernel
theorem dX3_livesThrough_17 : decode M_X3_livesThrough.2.1 17 = .ok (.iload_n 3, 1) := by decide +kernel
theorem dX3_livesThrough_18 : decode M_X3_livesThrough.2.1 18 = .ok (.iload 4, 2) := by decide +kernel
theorem dX3_livesThrough_20 : decode M_X3_livesThrough.2.1 20 = .ok (.invokestatic 181, 3) := by decide +kernel
theorem dX3_livesThrough_23 : decode M_X3_livesThrough.2.1 23 = .ok (.ifCond .eq 7, 3) := by decide +kernel
theorem dX3_livesThrough_26 : decode M_X3_livesThrough.2.1 26 = .ok (.iconst 2, 1) := by decide +kernel
theorem dX3_livesThrough_27 : decode M_X3_livesThrough.2.1 27 = .ok (.goto 4, 3) := by decide +kernel
theorem dX3_livesThrough_30 : decode M_X3_livesThrough.2.1 30 = .ok (.iconst 0, 1) := by decide +kernel
theorem dX3_livesThrough_31 : decode M_X3_livesThrough.2.1 31 = .ok (.invokevirtual 154, 3) := by decide +kernel
theorem dX3_livesThrough_34 : decode M_X3_livesThrough.2.1 34 = .ok (.iinc 4 1, 3) := by decide +kernel
theorem dX3_livesThrough_37 : decode M_X3_livesThrough.2.1 37 = .ok (.goto (-30), 3) := by decide +kernel
theorem dX3_livesThrough_40 : decode M_X3_livesThrough.2.1 40 = .ok (.aload_n 0, 1) := by decide +kernel
theorem dX3_livesThrough_41 : decode M_X3_livesThrough.2.1 41 = .ok (.getfield 16, 3) := by decide +kernel
theorem dX3_livesThrough_44 : decode M_X3_livesThrough.2.1 44 = .ok (.iload_n 1, 1) := by decide +kernel
theorem dX3_livesThrough_45 : decode M_X3_livesThrough.2.1 45 = .ok (.invokevirtual 160, 3) := by decide +kernel
theorem dX3_livesThrough_48 : decode M_X3_livesThrough.2.1 48 = .ok (.ireturn, 1) := by decide +kernel
def c_X3_livesThrough_7 (a0 : Nat) (a1 : Int32) (a2 : Int32) (a3 : Int32) (k7 : Int32 → aW → Option (Int32 × aW)) (b4 : Int32) (w : aW) : Option (Int32 × aW) :=
  if a2 ≤ b4 then
    (gR 2 w a0 1).bind fun r2 =>
    cV 0 w r2 (bk (f_X0_isAlive r2 a1 w) fun x4 w3 =>
    if ¬ (x4 = 0 ∨ x4 = 1) then none else some (x4, w3))
  else
    (gR 2 w a0 1).bind fun r6 =>
    bk (f_X3_has a3 b4 w) fun x8 w7 =>
    if x8 = (0 : Int32) then
      cV 0 w7 r6 (bk (f_X0_passDay r6 (0 : Int32) w7) fun _ w9 =>
      k7 (b4 + 1) w9)
    else
      cV 0 w7 r6 (bk (f_X0_passDay r6 (2 : Int32) w7) fun _ w10 =>
      k7 (b4 + 1) w10)
theorem t_X3_livesThrough_7 (a0 : Nat) (a1 : Int32) (a2 : Int32) (a3 : Int32) (k7 : Int32 → aW → Option (Int32 × aW)) (hk7 : ∀ (b4 : Int32) (w : aW), Ev rvI M_X3_livesThrough 7 [some (.ref a0), some (.int a1), some (.int a2), some (.int a3), some (.int b4)] [] w (k7 b4 w)) (b4 : Int32) (w : aW) : Ev rvI M_X3_livesThrough 7 [some (.ref a0), some (.int a1), some (.int a2), some (.int a3), some (.int b4)] [] w (c_X3_livesThrough_7 a0 a1 a2 a3 k7 b4 w) := by
  unfold c_X3_livesThrough_7
  refine e_iload (pc := 7) dX3_livesThrough_7 rfl ?_
  refine e_iload_n (pc := 9) dX3_livesThrough_9 rfl rfl ?_
  refine e_icmp_ge (pc := 10) (tgt := 40) dX3_livesThrough_10 (by decide) (fun _ => ?_) (fun _ => ?_)
  · refine e_aload_n (pc := 40) dX3_livesThrough_40 rfl rfl ?_
    refine e_getR (pc := 41) dX3_livesThrough_41 hs_X3_16 (fun r2 => ?_)
    refine e_iload_n (pc := 44) dX3_livesThrough_44 rfl rfl ?_
    refine e_callV (pc := 45) (av := [.int a1]) (S := []) (c0 := 0) rfl rfl ok_X0_isAlive ⟨Nat.le_of_ble_eq_true rfl, Nat.le_of_ble_eq_true rfl⟩ hv_X3_160 dX3_livesThrough_45 (s_X0_isAlive r2 a1 w) rfl rfl (Nat.le_of_ble_eq_true rfl) (fun x4 w3 => ?_)
    refine e_chk (fun h5 => ?_)
    exact e_iret (pc := 48) dX3_livesThrough_48 rfl (a_nb (Decidable.not_not.mp h5))
  · refine e_aload_n (pc := 13) dX3_livesThrough_13 rfl rfl ?_
    refine e_getR (pc := 14) dX3_livesThrough_14 hs_X3_16 (fun r6 => ?_)
    refine e_iload_n (pc := 17) dX3_livesThrough_17 rfl rfl ?_
    refine e_iload (pc := 18) dX3_livesThrough_18 rfl ?_
    refine e_callS (pc := 20) (av := [.int a3, .int b4]) (S := [.ref r6]) ok_X3_has ⟨Nat.le_of_ble_eq_true rfl, Nat.le_of_ble_eq_true rfl⟩ ht_X3_181 dX3_livesThrough_20 (s_X3_has a3 b4 w) rfl rfl (Nat.le_of_ble_eq_true rfl) (fun x8 w7 => ?_)
    refine e_if_eq (pc := 23) (tgt := 30) dX3_livesThrough_23 (by decide) (fun _ => ?_) (fun _ => ?_)
    · refine e_iconst (pc := 30) dX3_livesThrough_30 kc_0 ?_
      refine e_callV (pc := 31) (av := [.int (0 : Int32)]) (S := []) (c0 := 0) rfl rfl ok_X0_passDay ⟨Nat.le_of_ble_eq_true rfl, Nat.le_of_ble_eq_true rfl⟩ hv_X3_154 dX3_livesThrough_31 (s_X0_passDay r6 (0 : Int32) w7) rfl rfl (Nat.le_of_ble_eq_true rfl) (fun _ w9 => ?_)
      refine e_iinc (L' := [some (.ref a0), some (.int a1), some (.int a2), some (.int a3), some (.int (b4 + 1))]) (pc := 34) (v := 1) dX3_livesThrough_34 (by decide) rfl kc_1 rfl ?_
      refine e_goto (pc := 37) (tgt := 7) dX3_livesThrough_37 (by decide) ?_
      exact hk7 (b4 + 1) w9
    · refine e_iconst (pc := 26) dX3_livesThrough_26 kc_2 ?_
      refine e_goto (pc := 27) (tgt := 31) dX3_livesThrough_27 (by decide) ?_
      refine e_callV (pc := 31) (av := [.int (2 : Int32)]) (S := []) (c0 := 0) rfl rfl ok_X0_passDay ⟨Nat.le_of_ble_eq_true rfl, Nat.le_of_ble_eq_true rfl⟩ hv_X3_154 dX3_livesThrough_31 (s_X0_passDay r6 (2 : Int32) w7) rfl rfl (Nat.le_of_ble_eq_true rfl) (fun _ w10 => ?_)
      refine e_iinc (L' := [some (.ref a0), some (.int a1), some (.int a2), some (.int a3), some (.int (b4 + 1))]) (pc := 34) (v := 1) dX3_livesThrough_34 (by decide) rfl kc_1 rfl ?_
      refine e_goto (pc := 37) (tgt := 7) dX3_livesThrough_37 (by decide) ?_
      exact hk7 (b4 + 1) w10
def f_X3_livesThrough (a0 : Nat) (a1 : Int32) (a2 : Int32) (a3 : Int32) (w : aW) : Option (Int32 × aW) :=
  cV 2 w a0 (bk (f_X3_think a0 w) fun _ w1 =>
  loop2 (c_X3_livesThrough_7 a0 a1 a2 a3) a_fuel (0 : Int32) w1)
theorem s_X3_livesThrough (a0 : Nat) (a1 : Int32) (a2 : Int32) (a3 : Int32) (w : aW) : Sp rvI M_X3_livesThrough [.ref a0, .int a1, .int a2, .int a3] w (f_X3_livesThrough a0 a1 a2 a3 w) := by
  refine e_entry [some (.ref a0), some (.int a1), some (.int a2), some (.int a3), none] (by decide +kernel) (Nat.le_of_ble_eq_true rfl) (fun _ => rfl) ?_
  unfold f_X3_livesThrough
  refine e_aload_n (pc := 0) dX3_livesThrough_0 rfl rfl ?_
  refine e_callV (pc := 1) (av := []) (S := []) (c0 := 2) rfl rfl ok_X3_think ⟨Nat.le_of_ble_eq_true rfl, Nat.le_of_ble_eq_true rfl⟩ hv_X3_56 dX3_livesThrough_1 (s_X3_think a0 w) rfl rfl (Nat.le_of_ble_eq_true rfl) (fun _ w1 => ?_)
  refine e_iconst (pc := 4) dX3_livesThrough_4 kc_0 ?_
  refine e_istore (L' := [some (.ref a0), some (.int a1), some (.int a2), some (.int a3), some (.int (0 : Int32))]) (pc := 5) dX3_livesThrough_5 (by decide) rfl ?_
  exact e_loop2 (L := fun b4 => [some (.ref a0), some (.int a1), some (.int a2), some (.int a3), some (.int b4)]) (S := fun b4 => []) (fun kf hkf => t_X3_livesThrough_7 a0 a1 a2 a3  kf hkf) _ (0 : Int32) w1
def M_X3_power : aM := (yX3_power, cX3_power, 5, (some .long), 0, 0)
theorem ok_X3_power : a_okM M_X3_power 2 := ⟨⟨by decide +kernel, by decide +kernel⟩, by decide +kernel, a_in 635 (by decide +kernel) rfl, a_in 76 (by decide +kernel) rfl⟩
theorem dX3_power_0 : decode M_X3_power.2.1 0 = .ok (.lconst 1, 1) := by decide +kernel
theorem dX3_power_1 : decode M_X3_power.2.1 1 = .ok (.lstore_n 2, 1) := by decide +kernel
theorem dX3_power_2 : decode M_X3_power.2.1 2 = .ok (.iconst 0, 1) := by decide +kernel
theorem dX3_power_3 : decode M_X3_power.2.1 3 = .ok (.istore 4, 2) := by decide +kernel
theorem dX3_power_5 : decode M_X3_power.2.1 5 = .ok (.iload 4, 2) := by decide +kernel
theorem dX3_power_7 : decode M_X3_power.2.1 7 = .ok (.iload_n 1, 1) := by decide +kernel
theorem dX3_power_8 : decode M_X3_power.2.1 8 = .ok (.if_icmp .ge 14, 3) := by decide +kernel
theorem dX3_power_11 : decode M_X3_power.2.1 11 = .ok (.lload_n 2, 1) := by decide +kernel
theorem dX3_power_12 : decode M_X3_power.2.1 12 = .ok (.iload_n 0, 1) := by decide +kernel
theorem dX3_power_13 : decode M_X3_power.2.1 13 = .ok (.i2l, 1) := by decide +kernel
theorem dX3_power_14 : decode M_X3_power.2.1 14 = .ok (.lmul, 1) := by decide +kernel
theorem dX3_power_15 : decode M_X3_power.2.1 15 = .ok (.lstore_n 2, 1) := by decide +kernel
theorem dX3_power_16 : decode M_X3_power.2.1 16 = .ok (.iinc 4 1, 3) := by decide +kernel
theorem dX3_power_19 : decode M_X3_power.2.1 19 = .ok (.goto (-14), 3) := by decide +kernel
theorem dX3_power_22 : decode M_X3_power.2.1 22 = .ok (.lload_n 2, 1) := by decide +kernel
theorem dX3_power_23 : decode M_X3_power.2.1 23 = .ok (.lreturn, 1) := by decide +kernel
def c_X3_power_5 (a0 : Int32) (a1 : Int32) (k5 : Int64 → Int32 → aW → Option (Int64 × aW)) (b2 : Int64) (b4 : Int32) (w : aW) : Option (Int64 × aW) :=
  if a1 ≤ b4 then
    some (b2, w)
  else
    k5 (b2 * a0.toInt64) (b4 + 1) w
theorem t_X3_power_5 (a0 : Int32) (a1 : Int32) (k5 : Int64 → Int32 → aW → Option (Int64 × aW)) (hk5 : ∀ (b2 : Int64) (b4 : Int32) (w : aW), Ev rvL M_X3_power 5 [some (.int a0), some (.int a1), some (.long b2), none, some (.int b4)] [] w (k5 b2 b4 w)) (b2 : Int64) (b4 : Int32) (w : aW) : Ev rvL M_X3_power 5 [some (.int a0), some (.int a1), some (.long b2), none, some (.int b4)] [] w (c_X3_power_5 a0 a1 k5 b2 b4 w) := by
  unfold c_X3_power_5
  refine e_iload (pc := 5) dX3_power_5 rfl ?_
  refine e_iload_n (pc := 7) dX3_power_7 rfl rfl ?_
  refine e_icmp_ge (pc := 8) (tgt := 22) dX3_power_8 (by decide) (fun _ => ?_) (fun _ => ?_)
  · refine e_lload_n (pc := 22) dX3_power_22 rfl rfl ?_
    exact e_lret (pc := 23) dX3_power_23 rfl
  · refine e_lload_n (pc := 11) dX3_power_11 rfl rfl ?_
    refine e_iload_n (pc := 12) dX3_power_12 rfl rfl ?_
    refine e_i2l (pc := 13) dX3_power_13 ?_
    refine e_lmul (pc := 14) dX3_power_14 ?_
    refine e_lstore_n (L' := [some (.int a0), some (.int a1), some (.long (b2 * a0.toInt64)), none, some (.int b4)]) (pc := 15) dX3_power_15 rfl (by decide) rfl ?_
    refine e_iinc (L' := [some (.int a0), some (.int a1), some (.long (b2 * a0.toInt64)), none, some (.int (b4 + 1))]) (pc := 16) (v := 1) dX3_power_16 (by decide) rfl kc_1 rfl ?_
    refine e_goto (pc := 19) (tgt := 5) dX3_power_19 (by decide) ?_
    exact hk5 (b2 * a0.toInt64) (b4 + 1) w
def f_X3_power (a0 : Int32) (a1 : Int32) (w : aW) : Option (Int64 × aW) :=
  loop3 (c_X3_power_5 a0 a1) a_fuel (1 : Int64) (0 : Int32) w
theorem s_X3_power (a0 : Int32) (a1 : Int32) (w : aW) : Sp rvL M_X3_power [.int a0, .int a1] w (f_X3_power a0 a1 w) := by
  refine e_entry [some (.int a0), some (.int a1), none, none, none] (by decide +kernel) (Nat.le_of_ble_eq_true rfl) (fun _ => rfl) ?_
  unfold f_X3_power
  refine e_lconst (pc := 0) (v := 1) dX3_power_0 (by decide) ?_
  refine e_lstore_n (L' := [some (.int a0), some (.int a1), some (.long (1 : Int64)), none, none]) (pc := 1) dX3_power_1 rfl (by decide) rfl ?_
  refine e_iconst (pc := 2) dX3_power_2 kc_0 ?_
  refine e_istore (L' := [some (.int a0), some (.int a1), some (.long (1 : Int64)), none, some (.int (0 : Int32))]) (pc := 3) dX3_power_3 (by decide) rfl ?_
  exact e_loop3 (L := fun b2 b4 => [some (.int a0), some (.int a1), some (.long b2), none, some (.int b4)]) (S := fun b2 b4 => []) (fun kf hkf => t_X3_power_5 a0 a1  kf hkf) _ (1 : Int64) (0 : Int32) w
def M_X3_commonDivisor : aM := (yX3_commonDivisor, cX3_commonDivisor, 11, (some .long), 0, 0)
theorem ok_X3_commonDivisor : a_okM M_X3_commonDivisor 2 := ⟨⟨by decide +kernel, by decide +kernel⟩, by decide +kernel, a_in 641 (by decide +kernel) rfl, a_in 76 (by decide +kernel) rfl⟩
theorem dX3_commonDivisor_0 : decode M_X3_commonDivisor.2.1 0 = .ok (.lload_n 0, 1) := by decide +kernel
theorem dX3_commonDivisor_1 : decode M_X3_commonDivisor.2.1 1 = .ok (.lstore 4, 2) := by decide +kernel
theorem dX3_commonDivisor_3 : decode M_X3_commonDivisor.2.1 3 = .ok (.lload_n 2, 1) := by decide +kernel
theorem dX3_commonDivisor_4 : decode M_X3_commonDivisor.2.1 4 = .ok (.lstore 6, 2) := by decide +kernel
theorem dX3_commonDivisor_6 : decode M_X3_commonDivisor.2.1 6 = .ok (.iconst 0, 1) := by decide +kernel
theorem dX3_commonDivisor_7 : decode M_X3_commonDivisor.2.1 7 = .ok (.istore 8, 2) := by decide +kernel
theorem dX3_commonDivisor_9 : decode M_X3_commonDivisor.2.1 9 = .ok (.iload 8, 2) := by decide +kernel
theorem dX3_commonDivisor_11 : decode M_X3_commonDivisor.2.1 11 = .ok (.sipush 200, 3) := by decide +kernel
theorem dX3_commonDivisor_14 : decode M_X3_commonDivisor.2.1 14 = .ok (.if_icmp .ge 31, 3) := by decide +kernel
theorem dX3_commonDivisor_17 : decode M_X3_commonDivisor.2.1 17 = .ok (.lload 6, 2) := by decide +kernel
theorem dX3_commonDivisor_19 : decode M_X3_commonDivisor.2.1 19 = .ok (.lconst 0, 1) := by decide +kernel
theorem dX3_commonDivisor_20 : decode M_X3_commonDivisor.2.1 20 = .ok (.lcmp, 1) := by decide +kernel
theorem dX3_commonDivisor_21 : decode M_X3_commonDivisor.2.1 21 = .ok (.ifCond .eq 24, 3) := by decide +kernel
theorem dX3_commonDivisor_24 : decode M_X3_commonDivisor.2.1 24 = .ok (.lload 4, 2) := by decide +kernel
theorem dX3_commonDivisor_26 : decode M_X3_commonDivisor.2.1 26 = .ok (.lload 6, 2) := by decide +kernel
theorem dX3_commonDivisor_28 : decode M_X3_commonDivisor.2.1 28 = .ok (.lrem, 1) := by decide +kernel
theorem dX3_commonDivisor_29 : decode M_X3_commonDivisor.2.1 29 = .ok (.lstore 9, 2) := by decide +kernel
theorem dX3_commonDivisor_31 : decode M_X3_commonDivisor.2.1 31 = .ok (.lload 6, 2) := by decide +kernel
theorem dX3_commonDivisor_33 : decode M_X3_commonDivisor.2.1 33 = .ok (.lstore 4, 2) := by decide +kernel
theorem dX3_commonDivisor_35 : decode M_X3_commonDivisor.2.1 35 = .ok (.lload 9, 2) := by decide +kernel
theorem dX3_commonDivisor_37 : decode M_X3_commonDivisor.2.1 37 = .ok (.lstore 6, 2) := by decide +kernel
theorem dX3_commonDivisor_39 : decode M_X3_commonDivisor.2.1 39 = .ok (.iinc 8 1, 3) := by decide +kernel
theorem dX3_commonDivisor_42 : decode M_X3_commonDivisor.2.1 42 = .ok (.goto (-33), 3) := by decide +kernel
theorem dX3_commonDivisor_45 : decode M_X3_commonDivisor.2.1 45 = .ok (.lload 4, 2) := by decide +kernel
theorem dX3_commonDivisor_47 : decode M_X3_commonDivisor.2.1 47 = .ok (.lreturn, 1) := by decide +kernel
def c_X3_commonDivisor_9 (a0 : Int64) (a2 : Int64) (k9 : Int64 → Int64 → Int32 → aW → Option (Int64 × aW)) (b4 : Int64) (b6 : Int64) (b8 : Int32) (w : aW) : Option (Int64 × aW) :=
  if (200 : Int32) ≤ b8 then
    some (b4, w)
  else
    if (lg_cmp b6 (0 : Int64)) = (0 : Int32) then
      some (b4, w)
    else
      if b6 = 0 then none else
      k9 b6 (b4 - b4 / b6 * b6) (b8 + 1) w
theorem t_X3_commonDivisor_9 (a0 : Int64) (a2 : Int64) (k9 : Int64 → Int64 → Int32 → aW → Option (Int64 × aW)) (hk9 : ∀ (b4 : Int64) (b6 : Int64) (b8 : Int32) (w : aW), Ev rvL M_X3_commonDivisor 9 [none, none, none, none, some (.long b4), none, some (.long b6), none, some (.int b8), none, none] [] w (k9 b4 b6 b8 w)) (b4 : Int64) (b6 : Int64) (b8 : Int32) (w : aW) : Ev rvL M_X3_commonDivisor 9 [none, none, none, none, some (.long b4), none, some (.long b6), none, some (.int b8), none, none] [] w (c_X3_commonDivisor_9 a0 a2 k9 b4 b6 b8 w) := by
  unfold c_X3_commonDivisor_9
  refine e_iload (pc := 9) dX3_commonDivisor_9 rfl ?_
  refine e_sipush (pc := 11) dX3_commonDivisor_11 ks_200 ?_
  refine e_icmp_ge (pc := 14) (tgt := 45) dX3_commonDivisor_14 (by decide) (fun _ => ?_) (fun _ => ?_)
  · refine e_lload (pc := 45) dX3_commonDivisor_45 rfl ?_
    exact e_lret (pc := 47) dX3_commonDivisor_47 rfl
  · refine e_lload (pc := 17) dX3_commonDivisor_17 rfl ?_
    refine e_lconst (pc := 19) (v := 0) dX3_commonDivisor_19 (by decide) ?_
    refine e_lcmp (pc := 20) dX3_commonDivisor_20 ?_
    refine e_if_eq (pc := 21) (tgt := 45) dX3_commonDivisor_21 (by decide) (fun _ => ?_) (fun _ => ?_)
    · refine e_lload (pc := 45) dX3_commonDivisor_45 rfl ?_
      exact e_lret (pc := 47) dX3_commonDivisor_47 rfl
    · refine e_lload (pc := 24) dX3_commonDivisor_24 rfl ?_
      refine e_lload (pc := 26) dX3_commonDivisor_26 rfl ?_
      refine e_chk (fun h1 => ?_)
      refine e_lrem (pc := 28) dX3_commonDivisor_28 h1 ?_
      refine e_lstore (L' := [none, none, none, none, some (.long b4), none, some (.long b6), none, some (.int b8), some (.long (b4 - b4 / b6 * b6)), none]) (pc := 29) dX3_commonDivisor_29 (by decide) rfl ?_
      refine e_lload (pc := 31) dX3_commonDivisor_31 rfl ?_
      refine e_lstore (L' := [none, none, none, none, some (.long b6), none, some (.long b6), none, some (.int b8), some (.long (b4 - b4 / b6 * b6)), none]) (pc := 33) dX3_commonDivisor_33 (by decide) rfl ?_
      refine e_lload (pc := 35) dX3_commonDivisor_35 rfl ?_
      refine e_lstore (L' := [none, none, none, none, some (.long b6), none, some (.long (b4 - b4 / b6 * b6)), none, some (.int b8), some (.long (b4 - b4 / b6 * b6)), none]) (pc := 37) dX3_commonDivisor_37 (by decide) rfl ?_
      refine e_iinc (L' := [none, none, none, none, some (.long b6), none, some (.long (b4 - b4 / b6 * b6)), none, some (.int (b8 + 1)), some (.long (b4 - b4 / b6 * b6)), none]) (pc := 39) (v := 1) dX3_commonDivisor_39 (by decide) rfl kc_1 rfl ?_
      refine e_goto (pc := 42) (tgt := 9) dX3_commonDivisor_42 (by decide) ?_
      refine e_forget (L2 := [none, none, none, none, some (.long b6), none, some (.long (b4 - b4 / b6 * b6)), none, some (.int (b8 + 1)), none, none]) (And.intro rfl (And.intro rfl (And.intro rfl trivial))) ?_
      exact hk9 b6 (b4 - b4 / b6 * b6) (b8 + 1) w
def f_X3_commonDivisor (a0 : Int64) (a2 : Int64) (w : aW) : Option (Int64 × aW) :=
  loop4 (c_X3_commonDivisor_9 a0 a2) a_fuel a0 a2 (0 : Int32) w
theorem s_X3_commonDivisor (a0 : Int64) (a2 : Int64) (w : aW) : Sp rvL M_X3_commonDivisor [.long a0, .long a2] w (f_X3_commonDivisor a0 a2 w) := by
  refine e_entry [some (.long a0), none, some (.long a2), none, none, none, none, none, none, none, none] (by decide +kernel) (Nat.le_of_ble_eq_true rfl) (fun _ => rfl) ?_
  unfold f_X3_commonDivisor
  refine e_lload_n (pc := 0) dX3_commonDivisor_0 rfl rfl ?_
  refine e_lstore (L' := [some (.long a0), none, some (.long a2), none, some (.long a0), none, none, none, none, none, none]) (pc := 1) dX3_commonDivisor_1 (by decide) rfl ?_
  refine e_lload_n (pc := 3) dX3_commonDivisor_3 rfl rfl ?_
  refine e_lstore (L' := [some (.long a0), none, some (.long a2), none, some (.long a0), none, some (.long a2), none, none, none, none]) (pc := 4) dX3_commonDivisor_4 (by decide) rfl ?_
  refine e_iconst (pc := 6) dX3_commonDivisor_6 kc_0 ?_
  refine e_istore (L' := [some (.long a0), none, some (.long a2), none, some (.long a0), none, some (.long a2), none, some (.int (0 : Int32)), none, none]) (pc := 7) dX3_commonDivisor_7 (by decide) rfl ?_
  refine e_forget (L2 := [none, none, none, none, some (.long a0), none, some (.long a2), none, some (.int (0 : Int32)), none, none]) (And.intro rfl (And.intro rfl (And.intro rfl trivial))) ?_
  exact e_loop4 (L := fun b4 b6 b8 => [none, none, none, none, some (.long b4), none, some (.long b6), none, some (.int b8), none, none]) (S := fun b4 b6 b8 => []) (fun kf hkf => t_X3_commonDivisor_9 a0 a2  kf hkf) _ a0 a2 (0 : Int32) w
def M_X3_partOfFraction : aM := (yX3_partOfFraction, cX3_partOfFraction, 7, (some .long), 1, 30)
theorem ok_X3_partOfFraction : a_okM M_X3_partOfFraction 3 := ⟨⟨by decide +kernel, by decide +kernel⟩, by decide +kernel, a_in 638 (by decide +kernel) rfl, a_in 76 (by decide +kernel) rfl⟩
theorem dX3_partOfFraction_0 : decode M_X3_partOfFraction.2.1 0 = .ok (.lload_n 0, 1) := by decide +kernel
theorem dX3_partOfFraction_1 : decode M_X3_partOfFraction.2.1 1 = .ok (.lload_n 2, 1) := by decide +kernel
theorem dX3_partOfFraction_2 : decode M_X3_partOfFraction.2.1 2 = .ok (.invokestatic 346, 3) := by decide +kernel
theorem dX3_partOfFraction_5 : decode M_X3_partOfFraction.2.1 5 = .ok (.lstore 5, 2) := by decide +kernel
theorem dX3_partOfFraction_7 : decode M_X3_partOfFraction.2.1 7 = .ok (.lload_n 2, 1) := by decide +kernel
theorem dX3_partOfFraction_8 : decode M_X3_partOfFraction.2.1 8 = .ok (.lconst 0, 1) := by decide +kernel
theorem dX3_partOfFraction_9 : decode M_X3_partOfFraction.2.1 9 = .ok (.lcmp, 1) := by decide +kernel
theorem dX3_partOfFraction_10 : decode M_X3_partOfFraction.2.1 10 = .ok (.ifCond .eq 10, 3) := by decide +kernel
theorem dX3_partOfFraction_13 : decode M_X3_partOfFraction.2.1 13 = .ok (.lload 5, 2) := by decide +kernel
theorem dX3_partOfFraction_15 : decode M_X3_partOfFraction.2.1 15 = .ok (.lconst 0, 1) := by decide +kernel
theorem dX3_partOfFraction_16 : decode M_X3_partOfFraction.2.1 16 = .ok (.lcmp, 1) := by decide +kernel
theorem dX3_partOfFraction_17 : decode M_X3_partOfFraction.2.1 17 = .ok (.ifCond .ne 7, 3) := by decide +kernel
theorem dX3_partOfFraction_20 : decode M_X3_partOfFraction.2.1 20 = .ok (.iload 4, 2) := by decide +kernel
theorem dX3_partOfFraction_22 : decode M_X3_partOfFraction.2.1 22 = .ok (.i2l, 1) := by decide +kernel
theorem dX3_partOfFraction_23 : decode M_X3_partOfFraction.2.1 23 = .ok (.lreturn, 1) := by decide +kernel
theorem dX3_partOfFraction_24 : decode M_X3_partOfFraction.2.1 24 = .ok (.iload 4, 2) := by decide +kernel
theorem dX3_partOfFraction_26 : decode M_X3_partOfFraction.2.1 26 = .ok (.ifCond .ne 7, 3) := by decide +kernel
theorem dX3_partOfFraction_29 : decode M_X3_partOfFraction.2.1 29 = .ok (.lload_n 0, 1) := by decide +kernel
theorem dX3_partOfFraction_30 : decode M_X3_partOfFraction.2.1 30 = .ok (.goto 4, 3) := by decide +kernel
theorem dX3_partOfFraction_33 : decode M_X3_partOfFraction.2.1 33 = .ok (.lload_n 2, 1) := by decide +kernel
theorem dX3_partOfFraction_34 : decode M_X3_partOfFraction.2.1 34 = .ok (.lload 5, 2) := by decide +kernel
theorem dX3_partOfFraction_36 : decode M_X3_partOfFraction.2.1 36 = .ok (.ldiv, 1) := by decide +kernel
theorem dX3_partOfFraction_37 : decode M_X3_partOfFraction.2.1 37 = .ok (.lreturn, 1) := by decide +kernel
theorem ht_X3_346 : a_okS RX3 M_X3_commonDivisor 346 := ⟨a_in 639 (by decide +kernel) rfl, a_in 640 (by decide +kernel) rfl⟩
def f_X3_partOfFraction (a0 : Int64) (a2 : Int64) (a4 : Int32) (w : aW) : Option (Int64 × aW) :=
  bk (f_X3_commonDivisor a0 a2 w) fun x2 w1 =>
  if (lg_cmp a2 (0 : Int64)) = (0 : Int32) then
    some (a4.toInt64, w1)
  else
    if ¬ (lg_cmp x2 (0 : Int64)) = (0 : Int32) then
      if ¬ a4 = (0 : Int32) then
        if x2 = 0 then none else
        some ((a2 / x2), w1)
      else
        if x2 = 0 then none else
        some ((a0 / x2), w1)
    else
      some (a4.toInt64, w1)
theorem s_X3_partOfFraction (a0 : Int64) (a2 : Int64) (a4 : Int32) (w : aW) : Sp rvL M_X3_partOfFraction [.long a0, .long a2, .int a4] w (f_X3_partOfFraction a0 a2 a4 w) := by
  refine e_entry [some (.long a0), none, some (.long a2), none, some (.int a4), none, none] (by decide +kernel) (Nat.le_of_ble_eq_true rfl) (fun _ => rfl) ?_
  unfold f_X3_partOfFraction
  refine e_lload_n (pc := 0) dX3_partOfFraction_0 rfl rfl ?_
  refine e_lload_n (pc := 1) dX3_partOfFraction_1 rfl rfl ?_
  refine e_callS (pc := 2) (av := [.long a0, .long a2]) (S := []) ok_X3_commonDivisor ⟨Nat.le_of_ble_eq_true rfl, Nat.le_of_ble_eq_true rfl⟩ ht_X3_346 dX3_partOfFraction_2 (s_X3_commonDivisor a0 a2 w) rfl rfl (Nat.le_of_ble_eq_true rfl) (fun x2 w1 => ?_)
  refine e_lstore (L' := [some (.long a0), none, some (.long a2), none, some (.int a4), some (.long x2), none]) (pc := 5) dX3_partOfFraction_5 (by decide) rfl ?_
  refine e_lload_n (pc := 7) dX3_partOfFraction_7 rfl rfl ?_
  refine e_lconst (pc := 8) (v := 0) dX3_partOfFraction_8 (by decide) ?_
  refine e_lcmp (pc := 9) dX3_partOfFraction_9 ?_
  refine e_if_eq (pc := 10) (tgt := 20) dX3_partOfFraction_10 (by decide) (fun _ => ?_) (fun _ => ?_)
  · refine e_iload (pc := 20) dX3_partOfFraction_20 rfl ?_
    refine e_i2l (pc := 22) dX3_partOfFraction_22 ?_
    exact e_lret (pc := 23) dX3_partOfFraction_23 rfl
  · refine e_lload (pc := 13) dX3_partOfFraction_13 rfl ?_
    refine e_lconst (pc := 15) (v := 0) dX3_partOfFraction_15 (by decide) ?_
    refine e_lcmp (pc := 16) dX3_partOfFraction_16 ?_
    refine e_if_ne (pc := 17) (tgt := 24) dX3_partOfFraction_17 (by decide) (fun _ => ?_) (fun _ => ?_)
    · refine e_iload (pc := 24) dX3_partOfFraction_24 rfl ?_
      refine e_if_ne (pc := 26) (tgt := 33) dX3_partOfFraction_26 (by decide) (fun _ => ?_) (fun _ => ?_)
      · refine e_lload_n (pc := 33) dX3_partOfFraction_33 rfl rfl ?_
        refine e_lload (pc := 34) dX3_partOfFraction_34 rfl ?_
        refine e_chk (fun h3 => ?_)
        refine e_ldiv (pc := 36) dX3_partOfFraction_36 h3 ?_
        exact e_lret (pc := 37) dX3_partOfFraction_37 rfl
      · refine e_lload_n (pc := 29) dX3_partOfFraction_29 rfl rfl ?_
        refine e_goto (pc := 30) (tgt := 34) dX3_partOfFraction_30 (by decide) ?_
        refine e_lload (pc := 34) dX3_partOfFraction_34 rfl ?_
        refine e_chk (fun h4 => ?_)
        refine e_ldiv (pc := 36) dX3_partOfFraction_36 h4 ?_
        exact e_lret (pc := 37) dX3_partOfFraction_37 rfl
    · refine e_iload (pc := 20) dX3_partOfFraction_20 rfl ?_
      refine e_i2l (pc := 22) dX3_partOfFraction_22 ?_
      exact e_lret (pc := 23) dX3_partOfFraction_23 rfl
def M_X3_snow : aM := (yX3_snow, cX3_snow, 8, (some .long), 5, 125)
theorem ok_X3_snow : a_okM M_X3_snow 4 := ⟨⟨by decide +kernel, by decide +kernel⟩, by decide +kernel, a_in 627 (by decide +kernel) rfl, a_in 76 (by decide +kernel) rfl⟩
theorem dX3_snow_0 : decode M_X3_snow.2.1 0 = .ok (.aload_n 0, 1) := by decide +kernel
theorem dX3_snow_1 : decode M_X3_snow.2.1 1 = .ok (.getfield 10, 3) := by decide +kernel
theorem dX3_snow_4 : decode M_X3_snow.2.1 4 = .ok (.iload_n 1, 1) := by decide +kernel
theorem dX3_snow_5 : decode M_X3_snow.2.1 5 = .ok (.invokevirtual 83, 3) := by decide +kernel
theorem dX3_snow_8 : decode M_X3_snow.2.1 8 = .ok (.ifCond .eq 33, 3) := by decide +kernel
theorem dX3_snow_11 : decode M_X3_snow.2.1 11 = .ok (.iload_n 2, 1) := by decide +kernel
theorem dX3_snow_12 : decode M_X3_snow.2.1 12 = .ok (.iconst 0, 1) := by decide +kernel
theorem dX3_snow_13 : decode M_X3_snow.2.1 13 = .ok (.bipush 7, 2) := by decide +kernel
theorem dX3_snow_15 : decode M_X3_snow.2.1 15 = .ok (.invokestatic 87, 3) := by decide +kernel
theorem dX3_snow_18 : decode M_X3_snow.2.1 18 = .ok (.ifCond .eq 23, 3) := by decide +kernel
theorem dX3_snow_21 : decode M_X3_snow.2.1 21 = .ok (.iload_n 3, 1) := by decide +kernel
theorem dX3_snow_22 : decode M_X3_snow.2.1 22 = .ok (.iconst 2, 1) := by decide +kernel
theorem dX3_snow_23 : decode M_X3_snow.2.1 23 = .ok (.bipush 20, 2) := by decide +kernel
theorem dX3_snow_25 : decode M_X3_snow.2.1 25 = .ok (.invokestatic 87, 3) := by decide +kernel
theorem dX3_snow_28 : decode M_X3_snow.2.1 28 = .ok (.ifCond .eq 13, 3) := by decide +kernel
theorem dX3_snow_31 : decode M_X3_snow.2.1 31 = .ok (.iload 4, 2) := by decide +kernel
theorem dX3_snow_33 : decode M_X3_snow.2.1 33 = .ok (.iconst 0, 1) := by decide +kernel
theorem dX3_snow_34 : decode M_X3_snow.2.1 34 = .ok (.iconst 1, 1) := by decide +kernel
theorem dX3_snow_35 : decode M_X3_snow.2.1 35 = .ok (.invokestatic 87, 3) := by decide +kernel
theorem dX3_snow_38 : decode M_X3_snow.2.1 38 = .ok (.ifCond .ne 7, 3) := by decide +kernel
theorem dX3_snow_41 : decode M_X3_snow.2.1 41 = .ok (.ldc2_w 246, 3) := by decide +kernel
theorem dX3_snow_44 : decode M_X3_snow.2.1 44 = .ok (.lreturn, 1) := by decide +kernel
theorem dX3_snow_45 : decode M_X3_snow.2.1 45 = .ok (.lconst 0, 1) := by decide +kernel
theorem dX3_snow_46 : decode M_X3_snow.2.1 46 = .ok (.lstore 5, 2) := by decide +kernel
theorem dX3_snow_48 : decode M_X3_snow.2.1 48 = .ok (.iconst 0, 1) := by decide +kernel
theorem dX3_snow_49 : decode M_X3_snow.2.1 49 = .ok (.istore 7, 2) := by decide +kernel
theorem dX3_snow_51 : decode M_X3_snow.2.1 51 = .ok (.iload 7, 2) := by decide +kernel
theorem dX3_snow_53 : decode M_X3_snow.2.1 53 = .ok (.iconst 1, 1) := by decide +kernel
theorem dX3_snow_54 : decode M_X3_snow.2.1 54 = .ok (.iload_n 2, 1) := by decide +kernel
theorem dX3_snow_55 : decode M_X3_snow.2.1 55 = .ok (.ishl, 1) := by decide +kernel
theorem dX3_snow_56 : decode M_X3_snow.2.1 56 = .ok (.if_icmp .ge 38, 3) := by decide +kernel
theorem dX3_snow_59 : decode M_X3_snow.2.1 59 = .ok (.aload_n 0, 1) := by decide +kernel
theorem dX3_snow_60 : decode M_X3_snow.2.1 60 = .ok (.iload_n 1, 1) := by decide +kernel
theorem dX3_snow_61 : decode M_X3_snow.2.1 61 = .ok (.iload_n 2, 1) := by decide +kernel
theorem dX3_snow_62 : decode M_X3_snow.2.1 62 = .ok (.iload 7, 2) := by decide +kernel
theorem dX3_snow_64 : decode M_X3_snow.2.1 64 = .ok (.invokevirtual 248, 3) := by decide +kernel
theorem dX3_snow_67 : decode M_X3_snow.2.1 67 = .ok (.ifCond .eq 21, 3) := by decide +kernel
theorem dX3_snow_70 : decode M_X3_snow.2.1 70 = .ok (.lload 5, 2) := by decide +kernel
theorem dX3_snow_72 : decode M_X3_snow.2.1 72 = .ok (.iload_n 3, 1) := by decide +kernel
theorem dX3_snow_73 : decode M_X3_snow.2.1 73 = .ok (.iconst 1, 1) := by decide +kernel
theorem dX3_snow_74 : decode M_X3_snow.2.1 74 = .ok (.isub, 1) := by decide +kernel
theorem dX3_snow_75 : decode M_X3_snow.2.1 75 = .ok (.iload_n 2, 1) := by decide +kernel
theorem dX3_snow_76 : decode M_X3_snow.2.1 76 = .ok (.iload 7, 2) := by decide +kernel
theorem dX3_snow_78 : decode M_X3_snow.2.1 78 = .ok (.invokestatic 185, 3) := by decide +kernel
theorem dX3_snow_81 : decode M_X3_snow.2.1 81 = .ok (.isub, 1) := by decide +kernel
theorem dX3_snow_82 : decode M_X3_snow.2.1 82 = .ok (.invokestatic 251, 3) := by decide +kernel
theorem dX3_snow_85 : decode M_X3_snow.2.1 85 = .ok (.ladd, 1) := by decide +kernel
theorem dX3_snow_86 : decode M_X3_snow.2.1 86 = .ok (.lstore 5, 2) := by decide +kernel
theorem dX3_snow_88 : decode M_X3_snow.2.1 88 = .ok (.iinc 7 1, 3) := by decide +kernel
theorem dX3_snow_91 : decode M_X3_snow.2.1 91 = .ok (.goto (-40), 3) := by decide +kernel
theorem dX3_snow_94 : decode M_X3_snow.2.1 94 = .ok (.lload 5, 2) := by decide +kernel
theorem dX3_snow_96 : decode M_X3_snow.2.1 96 = .ok (.iload_n 3, 1) := by decide +kernel
theorem dX3_snow_97 : decode M_X3_snow.2.1 97 = .ok (.iload_n 2, 1) := by decide +kernel
theorem dX3_snow_98 : decode M_X3_snow.2.1 98 = .ok (.invokestatic 251, 3) := by decide +kernel
theorem dX3_snow_101 : decode M_X3_snow.2.1 101 = .ok (.iload 4, 2) := by decide +kernel
theorem dX3_snow_103 : decode M_X3_snow.2.1 103 = .ok (.invokestatic 255, 3) := by decide +kernel
theorem dX3_snow_106 : decode M_X3_snow.2.1 106 = .ok (.lreturn, 1) := by decide +kernel
theorem ht_X3_251 : a_okS RX3 M_X3_power 251 := ⟨a_in 633 (by decide +kernel) rfl, a_in 634 (by decide +kernel) rfl⟩
theorem ht_X3_255 : a_okS RX3 M_X3_partOfFraction 255 := ⟨a_in 636 (by decide +kernel) rfl, a_in 637 (by decide +kernel) rfl⟩
theorem hv_X3_248 : a_okV RX3 M_X3_livesThrough 248 := ⟨a_in 629 (by decide +kernel) rfl, a_in 631 (by decide +kernel) rfl, a_in 20 (by decide +kernel) rfl⟩
def c_X3_snow_51 (a0 : Nat) (a1 : Int32) (a2 : Int32) (a3 : Int32) (a4 : Int32) (k51 : Int64 → Int32 → aW → Option (Int64 × aW)) (b5 : Int64) (b7 : Int32) (w : aW) : Option (Int64 × aW) :=
  if ((1 : Int32) <<< (a2 &&& 31)) ≤ b7 then
    bk (f_X3_power a3 a2 w) fun x11 w10 =>
    bk (f_X3_partOfFraction b5 x11 a4 w10) fun x13 w12 =>
    some (x13, w12)
  else
    cV 2 w a0 (bk (f_X3_livesThrough a0 a1 a2 b7 w) fun x15 w14 =>
    if x15 = (0 : Int32) then
      k51 b5 (b7 + 1) w14
    else
      bk (f_J6_bitCount_0f7a4 b7 w14) fun x17 w16 =>
      bk (f_X3_power (a3 - (1 : Int32)) (a2 - x17) w16) fun x19 w18 =>
      k51 (b5 + x19) (b7 + 1) w18)
theorem t_X3_snow_51 (a0 : Nat) (a1 : Int32) (a2 : Int32) (a3 : Int32) (a4 : Int32) (k51 : Int64 → Int32 → aW → Option (Int64 × aW)) (hk51 : ∀ (b5 : Int64) (b7 : Int32) (w : aW), Ev rvL M_X3_snow 51 [some (.ref a0), some (.int a1), some (.int a2), some (.int a3), some (.int a4), some (.long b5), none, some (.int b7)] [] w (k51 b5 b7 w)) (b5 : Int64) (b7 : Int32) (w : aW) : Ev rvL M_X3_snow 51 [some (.ref a0), some (.int a1), some (.int a2), some (.int a3), some (.int a4), some (.long b5), none, some (.int b7)] [] w (c_X3_snow_51 a0 a1 a2 a3 a4 k51 b5 b7 w) := by
  unfold c_X3_snow_51
  refine e_iload (pc := 51) dX3_snow_51 rfl ?_
  refine e_iconst (pc := 53) dX3_snow_53 kc_1 ?_
  refine e_iload_n (pc := 54) dX3_snow_54 rfl rfl ?_
  refine e_ishl (pc := 55) dX3_snow_55 ?_
  refine e_icmp_ge (pc := 56) (tgt := 94) dX3_snow_56 (by decide) (fun _ => ?_) (fun _ => ?_)
  · refine e_lload (pc := 94) dX3_snow_94 rfl ?_
    refine e_iload_n (pc := 96) dX3_snow_96 rfl rfl ?_
    refine e_iload_n (pc := 97) dX3_snow_97 rfl rfl ?_
    refine e_callS (pc := 98) (av := [.int a3, .int a2]) (S := [.long b5]) ok_X3_power ⟨Nat.le_of_ble_eq_true rfl, Nat.le_of_ble_eq_true rfl⟩ ht_X3_251 dX3_snow_98 (s_X3_power a3 a2 w) rfl rfl (Nat.le_of_ble_eq_true rfl) (fun x11 w10 => ?_)
    refine e_iload (pc := 101) dX3_snow_101 rfl ?_
    refine e_callS (pc := 103) (av := [.long b5, .long x11, .int a4]) (S := []) ok_X3_partOfFraction ⟨Nat.le_of_ble_eq_true rfl, Nat.le_of_ble_eq_true rfl⟩ ht_X3_255 dX3_snow_103 (s_X3_partOfFraction b5 x11 a4 w10) rfl rfl (Nat.le_of_ble_eq_true rfl) (fun x13 w12 => ?_)
    exact e_lret (pc := 106) dX3_snow_106 rfl
  · refine e_aload_n (pc := 59) dX3_snow_59 rfl rfl ?_
    refine e_iload_n (pc := 60) dX3_snow_60 rfl rfl ?_
    refine e_iload_n (pc := 61) dX3_snow_61 rfl rfl ?_
    refine e_iload (pc := 62) dX3_snow_62 rfl ?_
    refine e_callV (pc := 64) (av := [.int a1, .int a2, .int b7]) (S := []) (c0 := 2) rfl rfl ok_X3_livesThrough ⟨Nat.le_of_ble_eq_true rfl, Nat.le_of_ble_eq_true rfl⟩ hv_X3_248 dX3_snow_64 (s_X3_livesThrough a0 a1 a2 b7 w) rfl rfl (Nat.le_of_ble_eq_true rfl) (fun x15 w14 => ?_)
    refine e_if_eq (pc := 67) (tgt := 88) dX3_snow_67 (by decide) (fun _ => ?_) (fun _ => ?_)
    · refine e_iinc (L' := [some (.ref a0), some (.int a1), some (.int a2), some (.int a3), some (.int a4), some (.long b5), none, some (.int (b7 + 1))]) (pc := 88) (v := 1) dX3_snow_88 (by decide) rfl kc_1 rfl ?_
      refine e_goto (pc := 91) (tgt := 51) dX3_snow_91 (by decide) ?_
      exact hk51 b5 (b7 + 1) w14
    · refine e_lload (pc := 70) dX3_snow_70 rfl ?_
      refine e_iload_n (pc := 72) dX3_snow_72 rfl rfl ?_
      refine e_iconst (pc := 73) dX3_snow_73 kc_1 ?_
      refine e_isub (pc := 74) dX3_snow_74 ?_
      refine e_iload_n (pc := 75) dX3_snow_75 rfl rfl ?_
      refine e_iload (pc := 76) dX3_snow_76 rfl ?_
      refine e_callS (pc := 78) (av := [.int b7]) (S := [.int a2, .int (a3 - (1 : Int32)), .long b5]) ok_J6_bitCount_0f7a4 ⟨Nat.le_of_ble_eq_true rfl, Nat.le_of_ble_eq_true rfl⟩ ht_X3_185 dX3_snow_78 (s_J6_bitCount_0f7a4 b7 w14) rfl rfl (Nat.le_of_ble_eq_true rfl) (fun x17 w16 => ?_)
      refine e_isub (pc := 81) dX3_snow_81 ?_
      refine e_callS (pc := 82) (av := [.int (a3 - (1 : Int32)), .int (a2 - x17)]) (S := [.long b5]) ok_X3_power ⟨Nat.le_of_ble_eq_true rfl, Nat.le_of_ble_eq_true rfl⟩ ht_X3_251 dX3_snow_82 (s_X3_power (a3 - (1 : Int32)) (a2 - x17) w16) rfl rfl (Nat.le_of_ble_eq_true rfl) (fun x19 w18 => ?_)
      refine e_ladd (pc := 85) dX3_snow_85 ?_
      refine e_lstore (L' := [some (.ref a0), some (.int a1), some (.int a2), some (.int a3), some (.int a4), some (.long (b5 + x19)), none, some (.int b7)]) (pc := 86) dX3_snow_86 (by decide) rfl ?_
      refine e_iinc (L' := [some (.ref a0), some (.int a1), some (.int a2), some (.int a3), some (.int a4), some (.long (b5 + x19)), none, some (.int (b7 + 1))]) (pc := 88) (v := 1) dX3_snow_88 (by decide) rfl kc_1 rfl ?_
      refine e_goto (pc := 91) (tgt := 51) dX3_snow_91 (by decide) ?_
      exact hk51 (b5 + x19) (b7 + 1) w18
def f_X3_snow (a0 : Nat) (a1 : Int32) (a2 : Int32) (a3 : Int32) (a4 : Int32) (w : aW) : Option (Int64 × aW) :=
  (gR 2 w a0 0).bind fun r1 =>
  cV 0 w r1 (bk (f_X0_hasBeast r1 a1 w) fun x3 w2 =>
  if x3 = (0 : Int32) then
    some ((1000000001 : Int64), w2)
  else
    bk (f_X3_within a2 (0 : Int32) (7 : Int32) w2) fun x5 w4 =>
    if x5 = (0 : Int32) then
      some ((1000000001 : Int64), w4)
    else
      bk (f_X3_within a3 (2 : Int32) (20 : Int32) w4) fun x7 w6 =>
      if x7 = (0 : Int32) then
        some ((1000000001 : Int64), w6)
      else
        bk (f_X3_within a4 (0 : Int32) (1 : Int32) w6) fun x9 w8 =>
        if ¬ x9 = (0 : Int32) then
          loop3 (c_X3_snow_51 a0 a1 a2 a3 a4) a_fuel (0 : Int64) (0 : Int32) w8
        else
          some ((1000000001 : Int64), w8))
theorem s_X3_snow (a0 : Nat) (a1 : Int32) (a2 : Int32) (a3 : Int32) (a4 : Int32) (w : aW) : Sp rvL M_X3_snow [.ref a0, .int a1, .int a2, .int a3, .int a4] w (f_X3_snow a0 a1 a2 a3 a4 w) := by
  refine e_entry [some (.ref a0), some (.int a1), some (.int a2), some (.int a3), some (.int a4), none, none, none] (by decide +kernel) (Nat.le_of_ble_eq_true rfl) (fun _ => rfl) ?_
  unfold f_X3_snow
  refine e_aload_n (pc := 0) dX3_snow_0 rfl rfl ?_
  refine e_getR (pc := 1) dX3_snow_1 hs_X3_10 (fun r1 => ?_)
  refine e_iload_n (pc := 4) dX3_snow_4 rfl rfl ?_
  refine e_callV (pc := 5) (av := [.int a1]) (S := []) (c0 := 0) rfl rfl ok_X0_hasBeast ⟨Nat.le_of_ble_eq_true rfl, Nat.le_of_ble_eq_true rfl⟩ hv_X3_83 dX3_snow_5 (s_X0_hasBeast r1 a1 w) rfl rfl (Nat.le_of_ble_eq_true rfl) (fun x3 w2 => ?_)
  refine e_if_eq (pc := 8) (tgt := 41) dX3_snow_8 (by decide) (fun _ => ?_) (fun _ => ?_)
  · refine e_ldc2 (pc := 41) (v := 1000000001) dX3_snow_41 (a_in 628 (by decide +kernel) rfl) ?_
    exact e_lret (pc := 44) dX3_snow_44 rfl
  · refine e_iload_n (pc := 11) dX3_snow_11 rfl rfl ?_
    refine e_iconst (pc := 12) dX3_snow_12 kc_0 ?_
    refine e_bipush (pc := 13) dX3_snow_13 kb_7 ?_
    refine e_callS (pc := 15) (av := [.int a2, .int (0 : Int32), .int (7 : Int32)]) (S := []) ok_X3_within ⟨Nat.le_of_ble_eq_true rfl, Nat.le_of_ble_eq_true rfl⟩ ht_X3_87 dX3_snow_15 (s_X3_within a2 (0 : Int32) (7 : Int32) w2) rfl rfl (Nat.le_of_ble_eq_true rfl) (fun x5 w4 => ?_)
    refine e_if_eq (pc := 18) (tgt := 41) dX3_snow_18 (by decide) (fun _ => ?_) (fun _ => ?_)
    · refine e_ldc2 (pc := 41) (v := 1000000001) dX3_snow_41 (a_in 628 (by decide +kernel) rfl) ?_
      exact e_lret (pc := 44) dX3_snow_44 rfl
    · refine e_iload_n (pc := 21) dX3_snow_21 rfl rfl ?_
      refine e_iconst (pc := 22) dX3_snow_22 kc_2 ?_
      refine e_bipush (pc := 23) dX3_snow_23 kb_20 ?_
      refine e_callS (pc := 25) (av := [.int a3, .int (2 : Int32), .int (20 : Int32)]) (S := []) ok_X3_within ⟨Nat.le_of_ble_eq_true rfl, Nat.le_of_ble_eq_true rfl⟩ ht_X3_87 dX3_snow_25 (s_X3_within a3 (2 : Int32) (20 : Int32) w4) rfl rfl (Nat.le_of_ble_eq_true rfl) (fun x7 w6 => ?_)
      refine e_if_eq (pc := 28) (tgt := 41) dX3_snow_28 (by decide) (fun _ => ?_) (fun _ => ?_)
      · refine e_ldc2 (pc := 41) (v := 1000000001) dX3_snow_41 (a_in 628 (by decide +kernel) rfl) ?_
        exact e_lret (pc := 44) dX3_snow_44 rfl
      · refine e_iload (pc := 31) dX3_snow_31 rfl ?_
        refine e_iconst (pc := 33) dX3_snow_33 kc_0 ?_
        refine e_iconst (pc := 34) dX3_snow_34 kc_1 ?_
        refine e_callS (pc := 35) (av := [.int a4, .int (0 : Int32), .int (1 : Int32)]) (S := []) ok_X3_within ⟨Nat.le_of_ble_eq_true rfl, Nat.le_of_ble_eq_true rfl⟩ ht_X3_87 dX3_snow_35 (s_X3_within a4 (0 : Int32) (1 : Int32) w6) rfl rfl (Nat.le_of_ble_eq_true rfl) (fun x9 w8 => ?_)
        refine e_if_ne (pc := 38) (tgt := 45) dX3_snow_38 (by decide) (fun _ => ?_) (fun _ => ?_)
        · refine e_lconst (pc := 45) (v := 0) dX3_snow_45 (by decide) ?_
          refine e_lstore (L' := [some (.ref a0), some (.int a1), some (.int a2), some (.int a3), some (.int a4), some (.long (0 : Int64)), none, none]) (pc := 46) dX3_snow_46 (by decide) rfl ?_
          refine e_iconst (pc := 48) dX3_snow_48 kc_0 ?_
          refine e_istore (L' := [some (.ref a0), some (.int a1), some (.int a2), some (.int a3), some (.int a4), some (.long (0 : Int64)), none, some (.int (0 : Int32))]) (pc := 49) dX3_snow_49 (by decide) rfl ?_
          exact e_loop3 (L := fun b5 b7 => [some (.ref a0), some (.int a1), some (.int a2), some (.int a3), some (.int a4), some (.long b5), none, some (.int b7)]) (S := fun b5 b7 => []) (fun kf hkf => t_X3_snow_51 a0 a1 a2 a3 a4  kf hkf) _ (0 : Int64) (0 : Int32) w8
        · refine e_ldc2 (pc := 41) (v := 1000000001) dX3_snow_41 (a_in 628 (by decide +kernel) rfl) ?_
          exact e_lret (pc := 44) dX3_snow_44 rfl
def M_X3_share : aM := (yX3_share, cX3_share, 3, (some .long), 2, 56)
theorem ok_X3_share : a_okM M_X3_share 2 := ⟨⟨by decide +kernel, by decide +kernel⟩, by decide +kernel, a_in 645 (by decide +kernel) rfl, a_in 76 (by decide +kernel) rfl⟩
theorem dX3_share_0 : decode M_X3_share.2.1 0 = .ok (.iload_n 1, 1) := by decide +kernel
theorem dX3_share_1 : decode M_X3_share.2.1 1 = .ok (.invokestatic 94, 3) := by decide +kernel
theorem dX3_share_4 : decode M_X3_share.2.1 4 = .ok (.ifCond .eq 12, 3) := by decide +kernel
theorem dX3_share_7 : decode M_X3_share.2.1 7 = .ok (.iload_n 2, 1) := by decide +kernel
theorem dX3_share_8 : decode M_X3_share.2.1 8 = .ok (.iconst 0, 1) := by decide +kernel
theorem dX3_share_9 : decode M_X3_share.2.1 9 = .ok (.iconst 1, 1) := by decide +kernel
theorem dX3_share_10 : decode M_X3_share.2.1 10 = .ok (.invokestatic 87, 3) := by decide +kernel
theorem dX3_share_13 : decode M_X3_share.2.1 13 = .ok (.ifCond .ne 7, 3) := by decide +kernel
theorem dX3_share_16 : decode M_X3_share.2.1 16 = .ok (.ldc2_w 246, 3) := by decide +kernel
theorem dX3_share_19 : decode M_X3_share.2.1 19 = .ok (.lreturn, 1) := by decide +kernel
theorem dX3_share_20 : decode M_X3_share.2.1 20 = .ok (.aload_n 0, 1) := by decide +kernel
theorem dX3_share_21 : decode M_X3_share.2.1 21 = .ok (.getfield 10, 3) := by decide +kernel
theorem dX3_share_24 : decode M_X3_share.2.1 24 = .ok (.getfield 142, 3) := by decide +kernel
theorem dX3_share_27 : decode M_X3_share.2.1 27 = .ok (.iload_n 1, 1) := by decide +kernel
theorem dX3_share_28 : decode M_X3_share.2.1 28 = .ok (.iaload, 1) := by decide +kernel
theorem dX3_share_29 : decode M_X3_share.2.1 29 = .ok (.i2l, 1) := by decide +kernel
theorem dX3_share_30 : decode M_X3_share.2.1 30 = .ok (.aload_n 0, 1) := by decide +kernel
theorem dX3_share_31 : decode M_X3_share.2.1 31 = .ok (.getfield 10, 3) := by decide +kernel
theorem dX3_share_34 : decode M_X3_share.2.1 34 = .ok (.invokevirtual 259, 3) := by decide +kernel
theorem dX3_share_37 : decode M_X3_share.2.1 37 = .ok (.i2l, 1) := by decide +kernel
theorem dX3_share_38 : decode M_X3_share.2.1 38 = .ok (.iload_n 2, 1) := by decide +kernel
theorem dX3_share_39 : decode M_X3_share.2.1 39 = .ok (.invokestatic 255, 3) := by decide +kernel
theorem dX3_share_42 : decode M_X3_share.2.1 42 = .ok (.lreturn, 1) := by decide +kernel
theorem hv_X3_259 : a_okV RX3 M_X0_meansOfAll 259 := ⟨a_in 646 (by decide +kernel) rfl, a_in 647 (by decide +kernel) rfl, a_in 648 (by decide +kernel) rfl⟩
def f_X3_share (a0 : Nat) (a1 : Int32) (a2 : Int32) (w : aW) : Option (Int64 × aW) :=
  bk (f_X3_isPerson a1 w) fun x2 w1 =>
  if x2 = (0 : Int32) then
    some ((1000000001 : Int64), w1)
  else
    bk (f_X3_within a2 (0 : Int32) (1 : Int32) w1) fun x4 w3 =>
    if ¬ x4 = (0 : Int32) then
      (gR 2 w3 a0 0).bind fun r5 =>
      (gR 0 w3 r5 9).bind fun r6 =>
      (gA w3 r6 a1).bind fun x7 =>
      (gR 2 w3 a0 0).bind fun r8 =>
      cV 0 w3 r8 (bk (f_X0_meansOfAll r8 w3) fun x10 w9 =>
      bk (f_X3_partOfFraction x7.toInt64 x10.toInt64 a2 w9) fun x12 w11 =>
      some (x12, w11))
    else
      some ((1000000001 : Int64), w3)
theorem s_X3_share (a0 : Nat) (a1 : Int32) (a2 : Int32) (w : aW) : Sp rvL M_X3_share [.ref a0, .int a1, .int a2] w (f_X3_share a0 a1 a2 w) := by
  refine e_entry [some (.ref a0), some (.int a1), some (.int a2)] (by decide +kernel) (Nat.le_of_ble_eq_true rfl) (fun _ => rfl) ?_
  unfold f_X3_share
  refine e_iload_n (pc := 0) dX3_share_0 rfl rfl ?_
  refine e_callS (pc := 1) (av := [.int a1]) (S := []) ok_X3_isPerson ⟨Nat.le_of_ble_eq_true rfl, Nat.le_of_ble_eq_true rfl⟩ ht_X3_94 dX3_share_1 (s_X3_isPerson a1 w) rfl rfl (Nat.le_of_ble_eq_true rfl) (fun x2 w1 => ?_)
  refine e_if_eq (pc := 4) (tgt := 16) dX3_share_4 (by decide) (fun _ => ?_) (fun _ => ?_)
  · refine e_ldc2 (pc := 16) (v := 1000000001) dX3_share_16 (a_in 628 (by decide +kernel) rfl) ?_
    exact e_lret (pc := 19) dX3_share_19 rfl
  · refine e_iload_n (pc := 7) dX3_share_7 rfl rfl ?_
    refine e_iconst (pc := 8) dX3_share_8 kc_0 ?_
    refine e_iconst (pc := 9) dX3_share_9 kc_1 ?_
    refine e_callS (pc := 10) (av := [.int a2, .int (0 : Int32), .int (1 : Int32)]) (S := []) ok_X3_within ⟨Nat.le_of_ble_eq_true rfl, Nat.le_of_ble_eq_true rfl⟩ ht_X3_87 dX3_share_10 (s_X3_within a2 (0 : Int32) (1 : Int32) w1) rfl rfl (Nat.le_of_ble_eq_true rfl) (fun x4 w3 => ?_)
    refine e_if_ne (pc := 13) (tgt := 20) dX3_share_13 (by decide) (fun _ => ?_) (fun _ => ?_)
    · refine e_aload_n (pc := 20) dX3_share_20 rfl rfl ?_
      refine e_getR (pc := 21) dX3_share_21 hs_X3_10 (fun r5 => ?_)
      refine e_getR (pc := 24) dX3_share_24 hs_X3_142 (fun r6 => ?_)
      refine e_iload_n (pc := 27) dX3_share_27 rfl rfl ?_
      refine e_iald (pc := 28) dX3_share_28 (fun x7 => ?_)
      refine e_i2l (pc := 29) dX3_share_29 ?_
      refine e_aload_n (pc := 30) dX3_share_30 rfl rfl ?_
      refine e_getR (pc := 31) dX3_share_31 hs_X3_10 (fun r8 => ?_)
      refine e_callV (pc := 34) (av := []) (S := [.long x7.toInt64]) (c0 := 0) rfl rfl ok_X0_meansOfAll ⟨Nat.le_of_ble_eq_true rfl, Nat.le_of_ble_eq_true rfl⟩ hv_X3_259 dX3_share_34 (s_X0_meansOfAll r8 w3) rfl rfl (Nat.le_of_ble_eq_true rfl) (fun x10 w9 => ?_)
      refine e_i2l (pc := 37) dX3_share_37 ?_
      refine e_iload_n (pc := 38) dX3_share_38 rfl rfl ?_
      refine e_callS (pc := 39) (av := [.long x7.toInt64, .long x10.toInt64, .int a2]) (S := []) ok_X3_partOfFraction ⟨Nat.le_of_ble_eq_true rfl, Nat.le_of_ble_eq_true rfl⟩ ht_X3_255 dX3_share_39 (s_X3_partOfFraction x7.toInt64 x10.toInt64 a2 w9) rfl rfl (Nat.le_of_ble_eq_true rfl) (fun x12 w11 => ?_)
      exact e_lret (pc := 42) dX3_share_42 rfl
    · refine e_ldc2 (pc := 16) (v := 1000000001) dX3_share_16 (a_in 628 (by decide +kernel) rfl) ?_
      exact e_lret (pc := 19) dX3_share_19 rfl
def M_X3_forged : aM := (yX3_forged, cX3_forged, 6, (some .int), 2, 43)
theorem ok_X3_forged : a_okM M_X3_forged 1 := ⟨⟨by decide +kernel, by decide +kernel⟩, by decide +kernel, a_in 653 (by decide +kernel) rfl, a_in 76 (by decide +kernel) rfl⟩
theorem dX3_forged_0 : decode M_X3_forged.2.1 0 = .ok (.aload_n 0, 1) := by decide +kernel
theorem dX3_forged_1 : decode M_X3_forged.2.1 1 = .ok (.iload_n 1, 1) := by decide +kernel
theorem dX3_forged_2 : decode M_X3_forged.2.1 2 = .ok (.invokevirtual 40, 3) := by decide +kernel
theorem dX3_forged_5 : decode M_X3_forged.2.1 5 = .ok (.astore_n 2, 1) := by decide +kernel
theorem dX3_forged_6 : decode M_X3_forged.2.1 6 = .ok (.aload_n 2, 1) := by decide +kernel
theorem dX3_forged_7 : decode M_X3_forged.2.1 7 = .ok (.ifnonnull 5, 3) := by decide +kernel
theorem dX3_forged_10 : decode M_X3_forged.2.1 10 = .ok (.iconst (-1), 1) := by decide +kernel
theorem dX3_forged_11 : decode M_X3_forged.2.1 11 = .ok (.ireturn, 1) := by decide +kernel
theorem dX3_forged_12 : decode M_X3_forged.2.1 12 = .ok (.aload_n 2, 1) := by decide +kernel
theorem dX3_forged_13 : decode M_X3_forged.2.1 13 = .ok (.invokevirtual 223, 3) := by decide +kernel
theorem dX3_forged_16 : decode M_X3_forged.2.1 16 = .ok (.istore_n 3, 1) := by decide +kernel
theorem dX3_forged_17 : decode M_X3_forged.2.1 17 = .ok (.iload_n 3, 1) := by decide +kernel
theorem dX3_forged_18 : decode M_X3_forged.2.1 18 = .ok (.ifCond .eq 5, 3) := by decide +kernel
theorem dX3_forged_21 : decode M_X3_forged.2.1 21 = .ok (.iload_n 3, 1) := by decide +kernel
theorem dX3_forged_22 : decode M_X3_forged.2.1 22 = .ok (.ireturn, 1) := by decide +kernel
theorem dX3_forged_23 : decode M_X3_forged.2.1 23 = .ok (.iconst 0, 1) := by decide +kernel
theorem dX3_forged_24 : decode M_X3_forged.2.1 24 = .ok (.istore 4, 2) := by decide +kernel
theorem dX3_forged_26 : decode M_X3_forged.2.1 26 = .ok (.iload 4, 2) := by decide +kernel
theorem dX3_forged_28 : decode M_X3_forged.2.1 28 = .ok (.aload_n 2, 1) := by decide +kernel
theorem dX3_forged_29 : decode M_X3_forged.2.1 29 = .ok (.getfield 59, 3) := by decide +kernel
theorem dX3_forged_32 : decode M_X3_forged.2.1 32 = .ok (.if_icmp .ge 69, 3) := by decide +kernel
theorem dX3_forged_35 : decode M_X3_forged.2.1 35 = .ok (.aload_n 0, 1) := by decide +kernel
theorem dX3_forged_36 : decode M_X3_forged.2.1 36 = .ok (.getfield 10, 3) := by decide +kernel
theorem dX3_forged_39 : decode M_X3_forged.2.1 39 = .ok (.iload 4, 2) := by decide +kernel
theorem dX3_forged_41 : decode M_X3_forged.2.1 41 = .ok (.invokevirtual 83, 3) := by decide +kernel
theorem dX3_forged_44 : decode M_X3_forged.2.1 44 = .ok (.ifCond .ne 6, 3) := by decide +kernel
theorem dX3_forged_47 : decode M_X3_forged.2.1 47 = .ok (.iload 4, 2) := by decide +kernel
theorem dX3_forged_49 : decode M_X3_forged.2.1 49 = .ok (.ireturn, 1) := by decide +kernel
theorem dX3_forged_50 : decode M_X3_forged.2.1 50 = .ok (.aload_n 0, 1) := by decide +kernel
theorem dX3_forged_51 : decode M_X3_forged.2.1 51 = .ok (.getfield 10, 3) := by decide +kernel
theorem dX3_forged_54 : decode M_X3_forged.2.1 54 = .ok (.getfield 151, 3) := by decide +kernel
theorem dX3_forged_57 : decode M_X3_forged.2.1 57 = .ok (.iload 4, 2) := by decide +kernel
theorem dX3_forged_59 : decode M_X3_forged.2.1 59 = .ok (.iaload, 1) := by decide +kernel
theorem dX3_forged_60 : decode M_X3_forged.2.1 60 = .ok (.bipush (-4), 2) := by decide +kernel
theorem dX3_forged_62 : decode M_X3_forged.2.1 62 = .ok (.if_icmp .ne 7, 3) := by decide +kernel
theorem dX3_forged_65 : decode M_X3_forged.2.1 65 = .ok (.iconst 5, 1) := by decide +kernel
theorem dX3_forged_66 : decode M_X3_forged.2.1 66 = .ok (.goto 13, 3) := by decide +kernel
theorem dX3_forged_69 : decode M_X3_forged.2.1 69 = .ok (.aload_n 0, 1) := by decide +kernel
theorem dX3_forged_70 : decode M_X3_forged.2.1 70 = .ok (.getfield 10, 3) := by decide +kernel
theorem dX3_forged_73 : decode M_X3_forged.2.1 73 = .ok (.getfield 151, 3) := by decide +kernel
theorem dX3_forged_76 : decode M_X3_forged.2.1 76 = .ok (.iload 4, 2) := by decide +kernel
theorem dX3_forged_78 : decode M_X3_forged.2.1 78 = .ok (.iaload, 1) := by decide +kernel
theorem dX3_forged_79 : decode M_X3_forged.2.1 79 = .ok (.istore 5, 2) := by decide +kernel
theorem dX3_forged_81 : decode M_X3_forged.2.1 81 = .ok (.aload_n 2, 1) := by decide +kernel
theorem dX3_forged_82 : decode M_X3_forged.2.1 82 = .ok (.iload 4, 2) := by decide +kernel
theorem dX3_forged_84 : decode M_X3_forged.2.1 84 = .ok (.invokevirtual 66, 3) := by decide +kernel
theorem dX3_forged_87 : decode M_X3_forged.2.1 87 = .ok (.iload 5, 2) := by decide +kernel
theorem dX3_forged_89 : decode M_X3_forged.2.1 89 = .ok (.if_icmp .eq 6, 3) := by decide +kernel
theorem dX3_forged_92 : decode M_X3_forged.2.1 92 = .ok (.iload 4, 2) := by decide +kernel
theorem dX3_forged_94 : decode M_X3_forged.2.1 94 = .ok (.ireturn, 1) := by decide +kernel
theorem dX3_forged_95 : decode M_X3_forged.2.1 95 = .ok (.iinc 4 1, 3) := by decide +kernel
theorem dX3_forged_98 : decode M_X3_forged.2.1 98 = .ok (.goto (-72), 3) := by decide +kernel
theorem dX3_forged_101 : decode M_X3_forged.2.1 101 = .ok (.bipush (-4), 2) := by decide +kernel
theorem dX3_forged_103 : decode M_X3_forged.2.1 103 = .ok (.ireturn, 1) := by decide +kernel
def c_X3_forged_79 (a0 : Nat) (a1 : Int32) (k26 : Nat → Int32 → aW → Option (Int32 × aW)) (b2 : Nat) (b4 : Int32) (s0 : Int32) (w : aW) : Option (Int32 × aW) :=
  cV 1 w b2 (bk (f_X1_at b2 b4 w) fun x17 w16 =>
  if x17 = s0 then
    k26 b2 (b4 + 1) w16
  else
    some (b4, w16))
theorem t_X3_forged_79 (a0 : Nat) (a1 : Int32) (k26 : Nat → Int32 → aW → Option (Int32 × aW)) (hk26 : ∀ (b2 : Nat) (b4 : Int32) (w : aW), Ev rvI M_X3_forged 26 [some (.ref a0), none, some (.ref b2), none, some (.int b4), none] [] w (k26 b2 b4 w)) (b2 : Nat) (b4 : Int32) (s0 : Int32) (w : aW) : Ev rvI M_X3_forged 79 [some (.ref a0), none, some (.ref b2), none, some (.int b4), none] [.int s0] w (c_X3_forged_79 a0 a1 k26 b2 b4 s0 w) := by
  unfold c_X3_forged_79
  refine e_istore (L' := [some (.ref a0), none, some (.ref b2), none, some (.int b4), some (.int s0)]) (pc := 79) dX3_forged_79 (by decide) rfl ?_
  refine e_aload_n (pc := 81) dX3_forged_81 rfl rfl ?_
  refine e_iload (pc := 82) dX3_forged_82 rfl ?_
  refine e_callV (pc := 84) (av := [.int b4]) (S := []) (c0 := 1) rfl rfl ok_X1_at ⟨Nat.le_of_ble_eq_true rfl, Nat.le_of_ble_eq_true rfl⟩ hv_X3_66 dX3_forged_84 (s_X1_at b2 b4 w) rfl rfl (Nat.le_of_ble_eq_true rfl) (fun x17 w16 => ?_)
  refine e_iload (pc := 87) dX3_forged_87 rfl ?_
  refine e_icmp_eq (pc := 89) (tgt := 95) dX3_forged_89 (by decide) (fun _ => ?_) (fun _ => ?_)
  · refine e_iinc (L' := [some (.ref a0), none, some (.ref b2), none, some (.int (b4 + 1)), some (.int s0)]) (pc := 95) (v := 1) dX3_forged_95 (by decide) rfl kc_1 rfl ?_
    refine e_goto (pc := 98) (tgt := 26) dX3_forged_98 (by decide) ?_
    refine e_forget (L2 := [some (.ref a0), none, some (.ref b2), none, some (.int (b4 + 1)), none]) (And.intro rfl (And.intro rfl (And.intro rfl trivial))) ?_
    exact hk26 b2 (b4 + 1) w16
  · refine e_iload (pc := 92) dX3_forged_92 rfl ?_
    exact e_iret (pc := 94) dX3_forged_94 rfl rfl
def c_X3_forged_26 (a0 : Nat) (a1 : Int32) (k26 : Nat → Int32 → aW → Option (Int32 × aW)) (b2 : Nat) (b4 : Int32) (w : aW) : Option (Int32 × aW) :=
  (gI 1 w b2 4).bind fun x6 =>
  if x6 ≤ b4 then
    some ((-4 : Int32), w)
  else
    (gR 2 w a0 0).bind fun r7 =>
    cV 0 w r7 (bk (f_X0_hasBeast r7 b4 w) fun x9 w8 =>
    if ¬ x9 = (0 : Int32) then
      (gR 2 w8 a0 0).bind fun r10 =>
      (gR 0 w8 r10 8).bind fun r11 =>
      (gA w8 r11 b4).bind fun x12 =>
      if ¬ x12 = (-4 : Int32) then
        (gR 2 w8 a0 0).bind fun r13 =>
        (gR 0 w8 r13 8).bind fun r14 =>
        (gA w8 r14 b4).bind fun x15 =>
        c_X3_forged_79 a0 a1 k26 b2 b4 x15 w8
      else
        c_X3_forged_79 a0 a1 k26 b2 b4 (5 : Int32) w8
    else
      some (b4, w8))
theorem t_X3_forged_26 (a0 : Nat) (a1 : Int32) (k26 : Nat → Int32 → aW → Option (Int32 × aW)) (hk26 : ∀ (b2 : Nat) (b4 : Int32) (w : aW), Ev rvI M_X3_forged 26 [some (.ref a0), none, some (.ref b2), none, some (.int b4), none] [] w (k26 b2 b4 w)) (b2 : Nat) (b4 : Int32) (w : aW) : Ev rvI M_X3_forged 26 [some (.ref a0), none, some (.ref b2), none, some (.int b4), none] [] w (c_X3_forged_26 a0 a1 k26 b2 b4 w) := by
  unfold c_X3_forged_26
  refine e_iload (pc := 26) dX3_forged_26 rfl ?_
  refine e_aload_n (pc := 28) dX3_forged_28 rfl rfl ?_
  refine e_getI (pc := 29) dX3_forged_29 hs_X3_59 (fun x6 => ?_)
  refine e_icmp_ge (pc := 32) (tgt := 101) dX3_forged_32 (by decide) (fun _ => ?_) (fun _ => ?_)
  · refine e_bipush (pc := 101) dX3_forged_101 kb_m4 ?_
    exact e_iret (pc := 103) dX3_forged_103 rfl rfl
  · refine e_aload_n (pc := 35) dX3_forged_35 rfl rfl ?_
    refine e_getR (pc := 36) dX3_forged_36 hs_X3_10 (fun r7 => ?_)
    refine e_iload (pc := 39) dX3_forged_39 rfl ?_
    refine e_callV (pc := 41) (av := [.int b4]) (S := []) (c0 := 0) rfl rfl ok_X0_hasBeast ⟨Nat.le_of_ble_eq_true rfl, Nat.le_of_ble_eq_true rfl⟩ hv_X3_83 dX3_forged_41 (s_X0_hasBeast r7 b4 w) rfl rfl (Nat.le_of_ble_eq_true rfl) (fun x9 w8 => ?_)
    refine e_if_ne (pc := 44) (tgt := 50) dX3_forged_44 (by decide) (fun _ => ?_) (fun _ => ?_)
    · refine e_aload_n (pc := 50) dX3_forged_50 rfl rfl ?_
      refine e_getR (pc := 51) dX3_forged_51 hs_X3_10 (fun r10 => ?_)
      refine e_getR (pc := 54) dX3_forged_54 hs_X3_151 (fun r11 => ?_)
      refine e_iload (pc := 57) dX3_forged_57 rfl ?_
      refine e_iald (pc := 59) dX3_forged_59 (fun x12 => ?_)
      refine e_bipush (pc := 60) dX3_forged_60 kb_m4 ?_
      refine e_icmp_ne (pc := 62) (tgt := 69) dX3_forged_62 (by decide) (fun _ => ?_) (fun _ => ?_)
      · refine e_aload_n (pc := 69) dX3_forged_69 rfl rfl ?_
        refine e_getR (pc := 70) dX3_forged_70 hs_X3_10 (fun r13 => ?_)
        refine e_getR (pc := 73) dX3_forged_73 hs_X3_151 (fun r14 => ?_)
        refine e_iload (pc := 76) dX3_forged_76 rfl ?_
        refine e_iald (pc := 78) dX3_forged_78 (fun x15 => ?_)
        exact t_X3_forged_79 a0 a1 k26 hk26 b2 b4 x15 w8
      · refine e_iconst (pc := 65) dX3_forged_65 kc_5 ?_
        refine e_goto (pc := 66) (tgt := 79) dX3_forged_66 (by decide) ?_
        exact t_X3_forged_79 a0 a1 k26 hk26 b2 b4 (5 : Int32) w8
    · refine e_iload (pc := 47) dX3_forged_47 rfl ?_
      exact e_iret (pc := 49) dX3_forged_49 rfl rfl
def f_X3_forged (a0 : Nat) (a1 : Int32) (w : aW) : Option (Int32 × aW) :=
  cV 2 w a0 (bk (f_X3_shelfAt a0 a1 w) fun o2 w1 =>
  oc o2 (
    some ((-1 : Int32), w1)) fun r3 =>
  cV 1 w1 r3 (bk (f_X1_rowRefusal r3 w1) fun x5 w4 =>
  if x5 = (0 : Int32) then
    loop3 (c_X3_forged_26 a0 a1) a_fuel r3 (0 : Int32) w4
  else
    some (x5, w4)))
theorem s_X3_forged (a0 : Nat) (a1 : Int32) (w : aW) : Sp rvI M_X3_forged [.ref a0, .int a1] w (f_X3_forged a0 a1 w) := by
  refine e_entry [some (.ref a0), some (.int a1), none, none, none, none] (by decide +kernel) (Nat.le_of_ble_eq_true rfl) (fun _ => rfl) ?_
  unfold f_X3_forged
  refine e_aload_n (pc := 0) dX3_forged_0 rfl rfl ?_
  refine e_iload_n (pc := 1) dX3_forged_1 rfl rfl ?_
  refine e_callV (pc := 2) (av := [.int a1]) (S := []) (c0 := 2) rfl rfl ok_X3_shelfAt ⟨Nat.le_of_ble_eq_true rfl, Nat.le_of_ble_eq_true rfl⟩ hv_X3_40 dX3_forged_2 (s_X3_shelfAt a0 a1 w) rfl rfl (Nat.le_of_ble_eq_true rfl) (fun o2 w1 => ?_)
  refine e_oc (fun _ => ?_) (fun r3 _ => ?_)
  · refine e_astore_nN (L' := [some (.ref a0), some (.int a1), some (.null), none, none, none]) (pc := 5) dX3_forged_5 rfl (by decide) rfl ?_
    refine e_aload_nN (pc := 6) dX3_forged_6 rfl rfl ?_
    refine e_ifnonnullN (pc := 7) dX3_forged_7 ?_
    refine e_iconst (pc := 10) dX3_forged_10 kc_m1 ?_
    exact e_iret (pc := 11) dX3_forged_11 rfl rfl
  · refine e_astore_n (L' := [some (.ref a0), some (.int a1), some (.ref r3), none, none, none]) (pc := 5) dX3_forged_5 rfl (by decide) rfl ?_
    refine e_aload_n (pc := 6) dX3_forged_6 rfl rfl ?_
    refine e_ifnonnull (pc := 7) (tgt := 12) dX3_forged_7 (by decide) ?_
    refine e_aload_n (pc := 12) dX3_forged_12 rfl rfl ?_
    refine e_callV (pc := 13) (av := []) (S := []) (c0 := 1) rfl rfl ok_X1_rowRefusal ⟨Nat.le_of_ble_eq_true rfl, Nat.le_of_ble_eq_true rfl⟩ hv_X3_223 dX3_forged_13 (s_X1_rowRefusal r3 w1) rfl rfl (Nat.le_of_ble_eq_true rfl) (fun x5 w4 => ?_)
    refine e_istore_n (L' := [some (.ref a0), some (.int a1), some (.ref r3), some (.int x5), none, none]) (pc := 16) dX3_forged_16 rfl (by decide) rfl ?_
    refine e_iload_n (pc := 17) dX3_forged_17 rfl rfl ?_
    refine e_if_eq (pc := 18) (tgt := 23) dX3_forged_18 (by decide) (fun _ => ?_) (fun _ => ?_)
    · refine e_iconst (pc := 23) dX3_forged_23 kc_0 ?_
      refine e_istore (L' := [some (.ref a0), some (.int a1), some (.ref r3), some (.int x5), some (.int (0 : Int32)), none]) (pc := 24) dX3_forged_24 (by decide) rfl ?_
      refine e_forget (L2 := [some (.ref a0), none, some (.ref r3), none, some (.int (0 : Int32)), none]) (And.intro rfl (And.intro rfl (And.intro rfl trivial))) ?_
      exact e_loop3 (L := fun b2 b4 => [some (.ref a0), none, some (.ref b2), none, some (.int b4), none]) (S := fun b2 b4 => []) (fun kf hkf => t_X3_forged_26 a0 a1  kf hkf) _ r3 (0 : Int32) w4
    · refine e_iload_n (pc := 21) dX3_forged_21 rfl rfl ?_
      exact e_iret (pc := 22) dX3_forged_22 rfl rfl
def M_X3_judge : aM := (yX3_judge, cX3_judge, 5, (some .int), 4, 101)
theorem ok_X3_judge : a_okM M_X3_judge 1 := ⟨⟨by decide +kernel, by decide +kernel⟩, by decide +kernel, a_in 657 (by decide +kernel) rfl, a_in 76 (by decide +kernel) rfl⟩
theorem dX3_judge_0 : decode M_X3_judge.2.1 0 = .ok (.aload_n 0, 1) := by decide +kernel
theorem dX3_judge_1 : decode M_X3_judge.2.1 1 = .ok (.iload_n 1, 1) := by decide +kernel
theorem dX3_judge_2 : decode M_X3_judge.2.1 2 = .ok (.invokevirtual 40, 3) := by decide +kernel
theorem dX3_judge_5 : decode M_X3_judge.2.1 5 = .ok (.astore_n 2, 1) := by decide +kernel
theorem dX3_judge_6 : decode M_X3_judge.2.1 6 = .ok (.aload_n 2, 1) := by decide +kernel
theorem dX3_judge_7 : decode M_X3_judge.2.1 7 = .ok (.ifnonnull 5, 3) := by decide +kernel
theorem dX3_judge_10 : decode M_X3_judge.2.1 10 = .ok (.iconst (-1), 1) := by decide +kernel
theorem dX3_judge_11 : decode M_X3_judge.2.1 11 = .ok (.ireturn, 1) := by decide +kernel
theorem dX3_judge_12 : decode M_X3_judge.2.1 12 = .ok (.aload_n 2, 1) := by decide +kernel
theorem dX3_judge_13 : decode M_X3_judge.2.1 13 = .ok (.invokevirtual 223, 3) := by decide +kernel
theorem dX3_judge_16 : decode M_X3_judge.2.1 16 = .ok (.istore_n 3, 1) := by decide +kernel
theorem dX3_judge_17 : decode M_X3_judge.2.1 17 = .ok (.iload_n 3, 1) := by decide +kernel
theorem dX3_judge_18 : decode M_X3_judge.2.1 18 = .ok (.ifCond .eq 5, 3) := by decide +kernel
theorem dX3_judge_21 : decode M_X3_judge.2.1 21 = .ok (.iload_n 3, 1) := by decide +kernel
theorem dX3_judge_22 : decode M_X3_judge.2.1 22 = .ok (.ireturn, 1) := by decide +kernel
theorem dX3_judge_23 : decode M_X3_judge.2.1 23 = .ok (.aload_n 0, 1) := by decide +kernel
theorem dX3_judge_24 : decode M_X3_judge.2.1 24 = .ok (.invokevirtual 56, 3) := by decide +kernel
theorem dX3_judge_27 : decode M_X3_judge.2.1 27 = .ok (.iconst 0, 1) := by decide +kernel
theorem dX3_judge_28 : decode M_X3_judge.2.1 28 = .ok (.istore 4, 2) := by decide +kernel
theorem dX3_judge_30 : decode M_X3_judge.2.1 30 = .ok (.iload 4, 2) := by decide +kernel
theorem dX3_judge_32 : decode M_X3_judge.2.1 32 = .ok (.aload_n 2, 1) := by decide +kernel
theorem dX3_judge_33 : decode M_X3_judge.2.1 33 = .ok (.getfield 59, 3) := by decide +kernel
theorem dX3_judge_36 : decode M_X3_judge.2.1 36 = .ok (.if_icmp .ge 45, 3) := by decide +kernel
theorem dX3_judge_39 : decode M_X3_judge.2.1 39 = .ok (.aload_n 2, 1) := by decide +kernel
theorem dX3_judge_40 : decode M_X3_judge.2.1 40 = .ok (.iload 4, 2) := by decide +kernel
theorem dX3_judge_42 : decode M_X3_judge.2.1 42 = .ok (.invokevirtual 262, 3) := by decide +kernel
theorem dX3_judge_45 : decode M_X3_judge.2.1 45 = .ok (.ifCond .eq 22, 3) := by decide +kernel
theorem dX3_judge_48 : decode M_X3_judge.2.1 48 = .ok (.aload_n 2, 1) := by decide +kernel
theorem dX3_judge_49 : decode M_X3_judge.2.1 49 = .ok (.iload 4, 2) := by decide +kernel
theorem dX3_judge_51 : decode M_X3_judge.2.1 51 = .ok (.invokevirtual 66, 3) := by decide +kernel
theorem dX3_judge_54 : decode M_X3_judge.2.1 54 = .ok (.aload_n 0, 1) := by decide +kernel
theorem dX3_judge_55 : decode M_X3_judge.2.1 55 = .ok (.getfield 16, 3) := by decide +kernel
theorem dX3_judge_58 : decode M_X3_judge.2.1 58 = .ok (.invokevirtual 259, 3) := by decide +kernel
theorem dX3_judge_61 : decode M_X3_judge.2.1 61 = .ok (.if_icmp .eq 6, 3) := by decide +kernel
theorem dX3_judge_64 : decode M_X3_judge.2.1 64 = .ok (.iload 4, 2) := by decide +kernel
theorem dX3_judge_66 : decode M_X3_judge.2.1 66 = .ok (.ireturn, 1) := by decide +kernel
theorem dX3_judge_67 : decode M_X3_judge.2.1 67 = .ok (.aload_n 0, 1) := by decide +kernel
theorem dX3_judge_68 : decode M_X3_judge.2.1 68 = .ok (.getfield 16, 3) := by decide +kernel
theorem dX3_judge_71 : decode M_X3_judge.2.1 71 = .ok (.iconst 0, 1) := by decide +kernel
theorem dX3_judge_72 : decode M_X3_judge.2.1 72 = .ok (.invokevirtual 154, 3) := by decide +kernel
theorem dX3_judge_75 : decode M_X3_judge.2.1 75 = .ok (.iinc 4 1, 3) := by decide +kernel
theorem dX3_judge_78 : decode M_X3_judge.2.1 78 = .ok (.goto (-48), 3) := by decide +kernel
theorem dX3_judge_81 : decode M_X3_judge.2.1 81 = .ok (.bipush (-4), 2) := by decide +kernel
theorem dX3_judge_83 : decode M_X3_judge.2.1 83 = .ok (.ireturn, 1) := by decide +kernel
def c_X3_judge_30 (a0 : Nat) (a1 : Int32) (k30 : Nat → Int32 → aW → Option (Int32 × aW)) (b2 : Nat) (b4 : Int32) (w : aW) : Option (Int32 × aW) :=
  (gI 1 w b2 4).bind fun x7 =>
  if x7 ≤ b4 then
    some ((-4 : Int32), w)
  else
    cV 1 w b2 (bk (f_X1_tells b2 b4 w) fun x9 w8 =>
    if x9 = (0 : Int32) then
      (gR 2 w8 a0 1).bind fun r10 =>
      cV 0 w8 r10 (bk (f_X0_passDay r10 (0 : Int32) w8) fun _ w11 =>
      k30 b2 (b4 + 1) w11)
    else
      cV 1 w8 b2 (bk (f_X1_at b2 b4 w8) fun x13 w12 =>
      (gR 2 w12 a0 1).bind fun r14 =>
      cV 0 w12 r14 (bk (f_X0_meansOfAll r14 w12) fun x16 w15 =>
      if x13 = x16 then
        (gR 2 w15 a0 1).bind fun r17 =>
        cV 0 w15 r17 (bk (f_X0_passDay r17 (0 : Int32) w15) fun _ w18 =>
        k30 b2 (b4 + 1) w18)
      else
        some (b4, w15))))
theorem t_X3_judge_30 (a0 : Nat) (a1 : Int32) (k30 : Nat → Int32 → aW → Option (Int32 × aW)) (hk30 : ∀ (b2 : Nat) (b4 : Int32) (w : aW), Ev rvI M_X3_judge 30 [some (.ref a0), none, some (.ref b2), none, some (.int b4)] [] w (k30 b2 b4 w)) (b2 : Nat) (b4 : Int32) (w : aW) : Ev rvI M_X3_judge 30 [some (.ref a0), none, some (.ref b2), none, some (.int b4)] [] w (c_X3_judge_30 a0 a1 k30 b2 b4 w) := by
  unfold c_X3_judge_30
  refine e_iload (pc := 30) dX3_judge_30 rfl ?_
  refine e_aload_n (pc := 32) dX3_judge_32 rfl rfl ?_
  refine e_getI (pc := 33) dX3_judge_33 hs_X3_59 (fun x7 => ?_)
  refine e_icmp_ge (pc := 36) (tgt := 81) dX3_judge_36 (by decide) (fun _ => ?_) (fun _ => ?_)
  · refine e_bipush (pc := 81) dX3_judge_81 kb_m4 ?_
    exact e_iret (pc := 83) dX3_judge_83 rfl rfl
  · refine e_aload_n (pc := 39) dX3_judge_39 rfl rfl ?_
    refine e_iload (pc := 40) dX3_judge_40 rfl ?_
    refine e_callV (pc := 42) (av := [.int b4]) (S := []) (c0 := 1) rfl rfl ok_X1_tells ⟨Nat.le_of_ble_eq_true rfl, Nat.le_of_ble_eq_true rfl⟩ hv_X3_262 dX3_judge_42 (s_X1_tells b2 b4 w) rfl rfl (Nat.le_of_ble_eq_true rfl) (fun x9 w8 => ?_)
    refine e_if_eq (pc := 45) (tgt := 67) dX3_judge_45 (by decide) (fun _ => ?_) (fun _ => ?_)
    · refine e_aload_n (pc := 67) dX3_judge_67 rfl rfl ?_
      refine e_getR (pc := 68) dX3_judge_68 hs_X3_16 (fun r10 => ?_)
      refine e_iconst (pc := 71) dX3_judge_71 kc_0 ?_
      refine e_callV (pc := 72) (av := [.int (0 : Int32)]) (S := []) (c0 := 0) rfl rfl ok_X0_passDay ⟨Nat.le_of_ble_eq_true rfl, Nat.le_of_ble_eq_true rfl⟩ hv_X3_154 dX3_judge_72 (s_X0_passDay r10 (0 : Int32) w8) rfl rfl (Nat.le_of_ble_eq_true rfl) (fun _ w11 => ?_)
      refine e_iinc (L' := [some (.ref a0), none, some (.ref b2), none, some (.int (b4 + 1))]) (pc := 75) (v := 1) dX3_judge_75 (by decide) rfl kc_1 rfl ?_
      refine e_goto (pc := 78) (tgt := 30) dX3_judge_78 (by decide) ?_
      exact hk30 b2 (b4 + 1) w11
    · refine e_aload_n (pc := 48) dX3_judge_48 rfl rfl ?_
      refine e_iload (pc := 49) dX3_judge_49 rfl ?_
      refine e_callV (pc := 51) (av := [.int b4]) (S := []) (c0 := 1) rfl rfl ok_X1_at ⟨Nat.le_of_ble_eq_true rfl, Nat.le_of_ble_eq_true rfl⟩ hv_X3_66 dX3_judge_51 (s_X1_at b2 b4 w8) rfl rfl (Nat.le_of_ble_eq_true rfl) (fun x13 w12 => ?_)
      refine e_aload_n (pc := 54) dX3_judge_54 rfl rfl ?_
      refine e_getR (pc := 55) dX3_judge_55 hs_X3_16 (fun r14 => ?_)
      refine e_callV (pc := 58) (av := []) (S := [.int x13]) (c0 := 0) rfl rfl ok_X0_meansOfAll ⟨Nat.le_of_ble_eq_true rfl, Nat.le_of_ble_eq_true rfl⟩ hv_X3_259 dX3_judge_58 (s_X0_meansOfAll r14 w12) rfl rfl (Nat.le_of_ble_eq_true rfl) (fun x16 w15 => ?_)
      refine e_icmp_eq (pc := 61) (tgt := 67) dX3_judge_61 (by decide) (fun _ => ?_) (fun _ => ?_)
      · refine e_aload_n (pc := 67) dX3_judge_67 rfl rfl ?_
        refine e_getR (pc := 68) dX3_judge_68 hs_X3_16 (fun r17 => ?_)
        refine e_iconst (pc := 71) dX3_judge_71 kc_0 ?_
        refine e_callV (pc := 72) (av := [.int (0 : Int32)]) (S := []) (c0 := 0) rfl rfl ok_X0_passDay ⟨Nat.le_of_ble_eq_true rfl, Nat.le_of_ble_eq_true rfl⟩ hv_X3_154 dX3_judge_72 (s_X0_passDay r17 (0 : Int32) w15) rfl rfl (Nat.le_of_ble_eq_true rfl) (fun _ w18 => ?_)
        refine e_iinc (L' := [some (.ref a0), none, some (.ref b2), none, some (.int (b4 + 1))]) (pc := 75) (v := 1) dX3_judge_75 (by decide) rfl kc_1 rfl ?_
        refine e_goto (pc := 78) (tgt := 30) dX3_judge_78 (by decide) ?_
        exact hk30 b2 (b4 + 1) w18
      · refine e_iload (pc := 64) dX3_judge_64 rfl ?_
        exact e_iret (pc := 66) dX3_judge_66 rfl rfl
def f_X3_judge (a0 : Nat) (a1 : Int32) (w : aW) : Option (Int32 × aW) :=
  cV 2 w a0 (bk (f_X3_shelfAt a0 a1 w) fun o2 w1 =>
  oc o2 (
    some ((-1 : Int32), w1)) fun r3 =>
  cV 1 w1 r3 (bk (f_X1_rowRefusal r3 w1) fun x5 w4 =>
  if x5 = (0 : Int32) then
    cV 2 w4 a0 (bk (f_X3_think a0 w4) fun _ w6 =>
    loop3 (c_X3_judge_30 a0 a1) a_fuel r3 (0 : Int32) w6)
  else
    some (x5, w4)))
theorem s_X3_judge (a0 : Nat) (a1 : Int32) (w : aW) : Sp rvI M_X3_judge [.ref a0, .int a1] w (f_X3_judge a0 a1 w) := by
  refine e_entry [some (.ref a0), some (.int a1), none, none, none] (by decide +kernel) (Nat.le_of_ble_eq_true rfl) (fun _ => rfl) ?_
  unfold f_X3_judge
  refine e_aload_n (pc := 0) dX3_judge_0 rfl rfl ?_
  refine e_iload_n (pc := 1) dX3_judge_1 rfl rfl ?_
  refine e_callV (pc := 2) (av := [.int a1]) (S := []) (c0 := 2) rfl rfl ok_X3_shelfAt ⟨Nat.le_of_ble_eq_true rfl, Nat.le_of_ble_eq_true rfl⟩ hv_X3_40 dX3_judge_2 (s_X3_shelfAt a0 a1 w) rfl rfl (Nat.le_of_ble_eq_true rfl) (fun o2 w1 => ?_)
  refine e_oc (fun _ => ?_) (fun r3 _ => ?_)
  · refine e_astore_nN (L' := [some (.ref a0), some (.int a1), some (.null), none, none]) (pc := 5) dX3_judge_5 rfl (by decide) rfl ?_
    refine e_aload_nN (pc := 6) dX3_judge_6 rfl rfl ?_
    refine e_ifnonnullN (pc := 7) dX3_judge_7 ?_
    refine e_iconst (pc := 10) dX3_judge_10 kc_m1 ?_
    exact e_iret (pc := 11) dX3_judge_11 rfl rfl
  · refine e_astore_n (L' := [some (.ref a0), some (.int a1), some (.ref r3), none, none]) (pc := 5) dX3_judge_5 rfl (by decide) rfl ?_
    refine e_aload_n (pc := 6) dX3_judge_6 rfl rfl ?_
    refine e_ifnonnull (pc := 7) (tgt := 12) dX3_judge_7 (by decide) ?_
    refine e_aload_n (pc := 12) dX3_judge_12 rfl rfl ?_
    refine e_callV (pc := 13) (av := []) (S := []) (c0 := 1) rfl rfl ok_X1_rowRefusal ⟨Nat.le_of_ble_eq_true rfl, Nat.le_of_ble_eq_true rfl⟩ hv_X3_223 dX3_judge_13 (s_X1_rowRefusal r3 w1) rfl rfl (Nat.le_of_ble_eq_true rfl) (fun x5 w4 => ?_)
    refine e_istore_n (L' := [some (.ref a0), some (.int a1), some (.ref r3), some (.int x5), none]) (pc := 16) dX3_judge_16 rfl (by decide) rfl ?_
    refine e_iload_n (pc := 17) dX3_judge_17 rfl rfl ?_
    refine e_if_eq (pc := 18) (tgt := 23) dX3_judge_18 (by decide) (fun _ => ?_) (fun _ => ?_)
    · refine e_aload_n (pc := 23) dX3_judge_23 rfl rfl ?_
      refine e_callV (pc := 24) (av := []) (S := []) (c0 := 2) rfl rfl ok_X3_think ⟨Nat.le_of_ble_eq_true rfl, Nat.le_of_ble_eq_true rfl⟩ hv_X3_56 dX3_judge_24 (s_X3_think a0 w4) rfl rfl (Nat.le_of_ble_eq_true rfl) (fun _ w6 => ?_)
      refine e_iconst (pc := 27) dX3_judge_27 kc_0 ?_
      refine e_istore (L' := [some (.ref a0), some (.int a1), some (.ref r3), some (.int x5), some (.int (0 : Int32))]) (pc := 28) dX3_judge_28 (by decide) rfl ?_
      refine e_forget (L2 := [some (.ref a0), none, some (.ref r3), none, some (.int (0 : Int32))]) (And.intro rfl (And.intro rfl (And.intro rfl trivial))) ?_
      exact e_loop3 (L := fun b2 b4 => [some (.ref a0), none, some (.ref b2), none, some (.int b4)]) (S := fun b2 b4 => []) (fun kf hkf => t_X3_judge_30 a0 a1  kf hkf) _ r3 (0 : Int32) w6
    · refine e_iload_n (pc := 21) dX3_judge_21 rfl rfl ?_
      exact e_iret (pc := 22) dX3_judge_22 rfl rfl
def M_X3_drawn : aM := (yX3_drawn, cX3_drawn, 2, (some .int), 0, 0)
theorem ok_X3_drawn : a_okM M_X3_drawn 2 := ⟨⟨by decide +kernel, by decide +kernel⟩, by decide +kernel, a_in 665 (by decide +kernel) rfl, a_in 76 (by decide +kernel) rfl⟩
theorem dX3_drawn_0 : decode M_X3_drawn.2.1 0 = .ok (.iload_n 1, 1) := by decide +kernel
theorem dX3_drawn_1 : decode M_X3_drawn.2.1 1 = .ok (.ifCond .le 17, 3) := by decide +kernel
theorem dX3_drawn_4 : decode M_X3_drawn.2.1 4 = .ok (.iload_n 0, 1) := by decide +kernel
theorem dX3_drawn_5 : decode M_X3_drawn.2.1 5 = .ok (.ldc_w 350, 3) := by decide +kernel
theorem dX3_drawn_8 : decode M_X3_drawn.2.1 8 = .ok (.iand, 1) := by decide +kernel
theorem dX3_drawn_9 : decode M_X3_drawn.2.1 9 = .ok (.ldc_w 351, 3) := by decide +kernel
theorem dX3_drawn_12 : decode M_X3_drawn.2.1 12 = .ok (.idiv, 1) := by decide +kernel
theorem dX3_drawn_13 : decode M_X3_drawn.2.1 13 = .ok (.iload_n 1, 1) := by decide +kernel
theorem dX3_drawn_14 : decode M_X3_drawn.2.1 14 = .ok (.irem, 1) := by decide +kernel
theorem dX3_drawn_15 : decode M_X3_drawn.2.1 15 = .ok (.goto 4, 3) := by decide +kernel
theorem dX3_drawn_18 : decode M_X3_drawn.2.1 18 = .ok (.iconst 0, 1) := by decide +kernel
theorem dX3_drawn_19 : decode M_X3_drawn.2.1 19 = .ok (.ireturn, 1) := by decide +kernel
def f_X3_drawn (a0 : Int32) (a1 : Int32) (w : aW) : Option (Int32 × aW) :=
  if a1 ≤ (0 : Int32) then
    some ((0 : Int32), w)
  else
    if a1 = 0 then none else
    some ((((a0 &&& (2147483647 : Int32)) / (65536 : Int32)) - ((a0 &&& (2147483647 : Int32)) / (65536 : Int32)) / a1 * a1), w)
theorem s_X3_drawn (a0 : Int32) (a1 : Int32) (w : aW) : Sp rvI M_X3_drawn [.int a0, .int a1] w (f_X3_drawn a0 a1 w) := by
  refine e_entry [some (.int a0), some (.int a1)] (by decide +kernel) (Nat.le_of_ble_eq_true rfl) (fun _ => rfl) ?_
  unfold f_X3_drawn
  refine e_iload_n (pc := 0) dX3_drawn_0 rfl rfl ?_
  refine e_if_le (pc := 1) (tgt := 18) dX3_drawn_1 (by decide) (fun _ => ?_) (fun _ => ?_)
  · refine e_iconst (pc := 18) dX3_drawn_18 kc_0 ?_
    exact e_iret (pc := 19) dX3_drawn_19 rfl rfl
  · refine e_iload_n (pc := 4) dX3_drawn_4 rfl rfl ?_
    refine e_ldcw (pc := 5) (v := 2147483647) dX3_drawn_5 (a_in 666 (by decide +kernel) rfl) ?_
    refine e_iand (pc := 8) dX3_drawn_8 ?_
    refine e_ldcw (pc := 9) (v := 65536) dX3_drawn_9 (a_in 667 (by decide +kernel) rfl) ?_
    refine e_idiv (pc := 12) dX3_drawn_12 (by decide) ?_
    refine e_iload_n (pc := 13) dX3_drawn_13 rfl rfl ?_
    refine e_chk (fun h1 => ?_)
    refine e_irem (pc := 14) dX3_drawn_14 h1 ?_
    refine e_goto (pc := 15) (tgt := 19) dX3_drawn_15 (by decide) ?_
    exact e_iret (pc := 19) dX3_drawn_19 rfl rfl
