/-! the decompiled methods: each f_ is what its bytecode does to a world; each s_ ties it to the machine. Written by program (wip/gen/gen.py). -/
def M_X4_judge : aM := (yX4_judge, cX4_judge, 5, (some .int), 5, 113)
theorem ok_X4_judge : a_okM M_X4_judge 1 := ⟨⟨by decide +kernel, by decide +kernel⟩, by decide +kernel, a_in 1385 (by decide +kernel) rfl, a_in 79 (by decide +kernel) rfl⟩
theorem dX4_judge_0 : decode M_X4_judge.2.1 0 = .ok (.aload_n 0, 1) := by decide +kernel
theorem dX4_judge_1 : decode M_X4_judge.2.1 1 = .ok (.iconst 0, 1) := by decide +kernel
theorem dX4_judge_2 : decode M_X4_judge.2.1 2 = .ok (.putfield 80, 3) := by decide +kernel
theorem dX4_judge_5 : decode M_X4_judge.2.1 5 = .ok (.aload_n 0, 1) := by decide +kernel
theorem dX4_judge_6 : decode M_X4_judge.2.1 6 = .ok (.iload_n 1, 1) := by decide +kernel
theorem dX4_judge_7 : decode M_X4_judge.2.1 7 = .ok (.invokevirtual 215, 3) := by decide +kernel
theorem dX4_judge_10 : decode M_X4_judge.2.1 10 = .ok (.istore_n 2, 1) := by decide +kernel
theorem dX4_judge_11 : decode M_X4_judge.2.1 11 = .ok (.iload_n 2, 1) := by decide +kernel
theorem dX4_judge_12 : decode M_X4_judge.2.1 12 = .ok (.ifCond .ge 5, 3) := by decide +kernel
theorem dX4_judge_15 : decode M_X4_judge.2.1 15 = .ok (.iload_n 2, 1) := by decide +kernel
theorem dX4_judge_16 : decode M_X4_judge.2.1 16 = .ok (.ireturn, 1) := by decide +kernel
theorem dX4_judge_17 : decode M_X4_judge.2.1 17 = .ok (.bipush (-4), 2) := by decide +kernel
theorem dX4_judge_19 : decode M_X4_judge.2.1 19 = .ok (.istore_n 3, 1) := by decide +kernel
theorem dX4_judge_20 : decode M_X4_judge.2.1 20 = .ok (.aload_n 0, 1) := by decide +kernel
theorem dX4_judge_21 : decode M_X4_judge.2.1 21 = .ok (.invokevirtual 221, 3) := by decide +kernel
theorem dX4_judge_24 : decode M_X4_judge.2.1 24 = .ok (.iconst 0, 1) := by decide +kernel
theorem dX4_judge_25 : decode M_X4_judge.2.1 25 = .ok (.istore 4, 2) := by decide +kernel
theorem dX4_judge_27 : decode M_X4_judge.2.1 27 = .ok (.iload 4, 2) := by decide +kernel
theorem dX4_judge_29 : decode M_X4_judge.2.1 29 = .ok (.aload_n 0, 1) := by decide +kernel
theorem dX4_judge_30 : decode M_X4_judge.2.1 30 = .ok (.getfield 49, 3) := by decide +kernel
theorem dX4_judge_33 : decode M_X4_judge.2.1 33 = .ok (.iload_n 1, 1) := by decide +kernel
theorem dX4_judge_34 : decode M_X4_judge.2.1 34 = .ok (.iaload, 1) := by decide +kernel
theorem dX4_judge_35 : decode M_X4_judge.2.1 35 = .ok (.if_icmp .ge 56, 3) := by decide +kernel
theorem dX4_judge_38 : decode M_X4_judge.2.1 38 = .ok (.iload_n 3, 1) := by decide +kernel
theorem dX4_judge_39 : decode M_X4_judge.2.1 39 = .ok (.ifCond .ge 52, 3) := by decide +kernel
theorem dX4_judge_42 : decode M_X4_judge.2.1 42 = .ok (.aload_n 0, 1) := by decide +kernel
theorem dX4_judge_43 : decode M_X4_judge.2.1 43 = .ok (.iload_n 1, 1) := by decide +kernel
theorem dX4_judge_44 : decode M_X4_judge.2.1 44 = .ok (.iload 4, 2) := by decide +kernel
theorem dX4_judge_46 : decode M_X4_judge.2.1 46 = .ok (.invokevirtual 334, 3) := by decide +kernel
theorem dX4_judge_49 : decode M_X4_judge.2.1 49 = .ok (.ifCond .ne 29, 3) := by decide +kernel
theorem dX4_judge_52 : decode M_X4_judge.2.1 52 = .ok (.aload_n 0, 1) := by decide +kernel
theorem dX4_judge_53 : decode M_X4_judge.2.1 53 = .ok (.getfield 52, 3) := by decide +kernel
theorem dX4_judge_56 : decode M_X4_judge.2.1 56 = .ok (.bipush 100, 2) := by decide +kernel
theorem dX4_judge_58 : decode M_X4_judge.2.1 58 = .ok (.iload_n 1, 1) := by decide +kernel
theorem dX4_judge_59 : decode M_X4_judge.2.1 59 = .ok (.imul, 1) := by decide +kernel
theorem dX4_judge_60 : decode M_X4_judge.2.1 60 = .ok (.iload 4, 2) := by decide +kernel
theorem dX4_judge_62 : decode M_X4_judge.2.1 62 = .ok (.iadd, 1) := by decide +kernel
theorem dX4_judge_63 : decode M_X4_judge.2.1 63 = .ok (.laload, 1) := by decide +kernel
theorem dX4_judge_64 : decode M_X4_judge.2.1 64 = .ok (.aload_n 0, 1) := by decide +kernel
theorem dX4_judge_65 : decode M_X4_judge.2.1 65 = .ok (.invokevirtual 356, 3) := by decide +kernel
theorem dX4_judge_68 : decode M_X4_judge.2.1 68 = .ok (.i2l, 1) := by decide +kernel
theorem dX4_judge_69 : decode M_X4_judge.2.1 69 = .ok (.lcmp, 1) := by decide +kernel
theorem dX4_judge_70 : decode M_X4_judge.2.1 70 = .ok (.ifCond .eq 8, 3) := by decide +kernel
theorem dX4_judge_73 : decode M_X4_judge.2.1 73 = .ok (.iload 4, 2) := by decide +kernel
theorem dX4_judge_75 : decode M_X4_judge.2.1 75 = .ok (.goto 5, 3) := by decide +kernel
theorem dX4_judge_78 : decode M_X4_judge.2.1 78 = .ok (.bipush (-4), 2) := by decide +kernel
theorem dX4_judge_80 : decode M_X4_judge.2.1 80 = .ok (.istore_n 3, 1) := by decide +kernel
theorem dX4_judge_81 : decode M_X4_judge.2.1 81 = .ok (.aload_n 0, 1) := by decide +kernel
theorem dX4_judge_82 : decode M_X4_judge.2.1 82 = .ok (.invokevirtual 149, 3) := by decide +kernel
theorem dX4_judge_85 : decode M_X4_judge.2.1 85 = .ok (.iinc 4 1, 3) := by decide +kernel
theorem dX4_judge_88 : decode M_X4_judge.2.1 88 = .ok (.goto (-61), 3) := by decide +kernel
theorem dX4_judge_91 : decode M_X4_judge.2.1 91 = .ok (.aload_n 0, 1) := by decide +kernel
theorem dX4_judge_92 : decode M_X4_judge.2.1 92 = .ok (.invokevirtual 227, 3) := by decide +kernel
theorem dX4_judge_95 : decode M_X4_judge.2.1 95 = .ok (.iload_n 3, 1) := by decide +kernel
theorem dX4_judge_96 : decode M_X4_judge.2.1 96 = .ok (.ireturn, 1) := by decide +kernel
def c_X4_judge_27 (a0 : Nat) (a1 : Int32) (k27 : Int32 → Int32 → aW → Option (Int32 × aW)) (b3 : Int32) (b4 : Int32) (w : aW) : Option (Int32 × aW) :=
  (gR 3 w a0 17).bind fun r5 =>
  (gA w r5 a1).bind fun x6 =>
  if x6 ≤ b4 then
    cV 3 w a0 (bk (f_X4_again a0 w) fun _ w7 =>
    some (b3, w7))
  else
    if (0 : Int32) ≤ b3 then
      cV 3 w a0 (bk (f_X4_again a0 w) fun _ w8 =>
      some (b3, w8))
    else
      cV 3 w a0 (bk (f_X4_isSkipped a0 a1 b4 w) fun x10 w9 =>
      if ¬ x10 = (0 : Int32) then
        cV 3 w9 a0 (bk (f_X4_dayOn a0 w9) fun _ w11 =>
        k27 (-4 : Int32) (b4 + 1) w11)
      else
        (gR 3 w9 a0 18).bind fun r12 =>
        (gL w9 r12 (((100 : Int32) * a1) + b4)).bind fun x13 =>
        cV 3 w9 a0 (bk (f_X4_allMeans a0 w9) fun x15 w14 =>
        if (lg_cmp x13 x15.toInt64) = (0 : Int32) then
          cV 3 w14 a0 (bk (f_X4_dayOn a0 w14) fun _ w16 =>
          k27 (-4 : Int32) (b4 + 1) w16)
        else
          cV 3 w14 a0 (bk (f_X4_dayOn a0 w14) fun _ w17 =>
          k27 b4 (b4 + 1) w17)))
theorem t_X4_judge_27 (a0 : Nat) (a1 : Int32) (k27 : Int32 → Int32 → aW → Option (Int32 × aW)) (hk27 : ∀ (b3 : Int32) (b4 : Int32) (w : aW), Ev rvI M_X4_judge 27 [some (.ref a0), some (.int a1), none, some (.int b3), some (.int b4)] [] w (k27 b3 b4 w)) (b3 : Int32) (b4 : Int32) (w : aW) : Ev rvI M_X4_judge 27 [some (.ref a0), some (.int a1), none, some (.int b3), some (.int b4)] [] w (c_X4_judge_27 a0 a1 k27 b3 b4 w) := by
  unfold c_X4_judge_27
  refine e_iload (pc := 27) dX4_judge_27 rfl ?_
  refine e_aload_n (pc := 29) dX4_judge_29 rfl rfl ?_
  refine e_getR (pc := 30) dX4_judge_30 hs_X4_49 (fun r5 => ?_)
  refine e_iload_n (pc := 33) dX4_judge_33 rfl rfl ?_
  refine e_iald (pc := 34) dX4_judge_34 (fun x6 => ?_)
  refine e_icmp_ge (pc := 35) (tgt := 91) dX4_judge_35 (by decide) (fun _ => ?_) (fun _ => ?_)
  · refine e_aload_n (pc := 91) dX4_judge_91 rfl rfl ?_
    refine e_callV (pc := 92) (av := []) (S := []) (c0 := 3) rfl rfl ok_X4_again ⟨Nat.le_of_ble_eq_true rfl, Nat.le_of_ble_eq_true rfl⟩ hv_X4_227 dX4_judge_92 (s_X4_again a0 w) rfl rfl (Nat.le_of_ble_eq_true rfl) (fun _ w7 => ?_)
    refine e_iload_n (pc := 95) dX4_judge_95 rfl rfl ?_
    exact e_iret (pc := 96) dX4_judge_96 rfl rfl
  · refine e_iload_n (pc := 38) dX4_judge_38 rfl rfl ?_
    refine e_if_ge (pc := 39) (tgt := 91) dX4_judge_39 (by decide) (fun _ => ?_) (fun _ => ?_)
    · refine e_aload_n (pc := 91) dX4_judge_91 rfl rfl ?_
      refine e_callV (pc := 92) (av := []) (S := []) (c0 := 3) rfl rfl ok_X4_again ⟨Nat.le_of_ble_eq_true rfl, Nat.le_of_ble_eq_true rfl⟩ hv_X4_227 dX4_judge_92 (s_X4_again a0 w) rfl rfl (Nat.le_of_ble_eq_true rfl) (fun _ w8 => ?_)
      refine e_iload_n (pc := 95) dX4_judge_95 rfl rfl ?_
      exact e_iret (pc := 96) dX4_judge_96 rfl rfl
    · refine e_aload_n (pc := 42) dX4_judge_42 rfl rfl ?_
      refine e_iload_n (pc := 43) dX4_judge_43 rfl rfl ?_
      refine e_iload (pc := 44) dX4_judge_44 rfl ?_
      refine e_callV (pc := 46) (av := [.int a1, .int b4]) (S := []) (c0 := 3) rfl rfl ok_X4_isSkipped ⟨Nat.le_of_ble_eq_true rfl, Nat.le_of_ble_eq_true rfl⟩ hv_X4_334 dX4_judge_46 (s_X4_isSkipped a0 a1 b4 w) rfl rfl (Nat.le_of_ble_eq_true rfl) (fun x10 w9 => ?_)
      refine e_if_ne (pc := 49) (tgt := 78) dX4_judge_49 (by decide) (fun _ => ?_) (fun _ => ?_)
      · refine e_bipush (pc := 78) dX4_judge_78 kb_m4 ?_
        refine e_istore_n (L' := [some (.ref a0), some (.int a1), none, some (.int (-4 : Int32)), some (.int b4)]) (pc := 80) dX4_judge_80 rfl (by decide) rfl ?_
        refine e_aload_n (pc := 81) dX4_judge_81 rfl rfl ?_
        refine e_callV (pc := 82) (av := []) (S := []) (c0 := 3) rfl rfl ok_X4_dayOn ⟨Nat.le_of_ble_eq_true rfl, Nat.le_of_ble_eq_true rfl⟩ hv_X4_149 dX4_judge_82 (s_X4_dayOn a0 w9) rfl rfl (Nat.le_of_ble_eq_true rfl) (fun _ w11 => ?_)
        refine e_iinc (L' := [some (.ref a0), some (.int a1), none, some (.int (-4 : Int32)), some (.int (b4 + 1))]) (pc := 85) (v := 1) dX4_judge_85 (by decide) rfl kc_1 rfl ?_
        refine e_goto (pc := 88) (tgt := 27) dX4_judge_88 (by decide) ?_
        exact hk27 (-4 : Int32) (b4 + 1) w11
      · refine e_aload_n (pc := 52) dX4_judge_52 rfl rfl ?_
        refine e_getR (pc := 53) dX4_judge_53 hs_X4_52 (fun r12 => ?_)
        refine e_bipush (pc := 56) dX4_judge_56 kb_100 ?_
        refine e_iload_n (pc := 58) dX4_judge_58 rfl rfl ?_
        refine e_imul (pc := 59) dX4_judge_59 ?_
        refine e_iload (pc := 60) dX4_judge_60 rfl ?_
        refine e_iadd (pc := 62) dX4_judge_62 ?_
        refine e_lald (pc := 63) dX4_judge_63 (fun x13 => ?_)
        refine e_aload_n (pc := 64) dX4_judge_64 rfl rfl ?_
        refine e_callV (pc := 65) (av := []) (S := [.long x13]) (c0 := 3) rfl rfl ok_X4_allMeans ⟨Nat.le_of_ble_eq_true rfl, Nat.le_of_ble_eq_true rfl⟩ hv_X4_356 dX4_judge_65 (s_X4_allMeans a0 w9) rfl rfl (Nat.le_of_ble_eq_true rfl) (fun x15 w14 => ?_)
        refine e_i2l (pc := 68) dX4_judge_68 ?_
        refine e_lcmp (pc := 69) dX4_judge_69 ?_
        refine e_if_eq (pc := 70) (tgt := 78) dX4_judge_70 (by decide) (fun _ => ?_) (fun _ => ?_)
        · refine e_bipush (pc := 78) dX4_judge_78 kb_m4 ?_
          refine e_istore_n (L' := [some (.ref a0), some (.int a1), none, some (.int (-4 : Int32)), some (.int b4)]) (pc := 80) dX4_judge_80 rfl (by decide) rfl ?_
          refine e_aload_n (pc := 81) dX4_judge_81 rfl rfl ?_
          refine e_callV (pc := 82) (av := []) (S := []) (c0 := 3) rfl rfl ok_X4_dayOn ⟨Nat.le_of_ble_eq_true rfl, Nat.le_of_ble_eq_true rfl⟩ hv_X4_149 dX4_judge_82 (s_X4_dayOn a0 w14) rfl rfl (Nat.le_of_ble_eq_true rfl) (fun _ w16 => ?_)
          refine e_iinc (L' := [some (.ref a0), some (.int a1), none, some (.int (-4 : Int32)), some (.int (b4 + 1))]) (pc := 85) (v := 1) dX4_judge_85 (by decide) rfl kc_1 rfl ?_
          refine e_goto (pc := 88) (tgt := 27) dX4_judge_88 (by decide) ?_
          exact hk27 (-4 : Int32) (b4 + 1) w16
        · refine e_iload (pc := 73) dX4_judge_73 rfl ?_
          refine e_goto (pc := 75) (tgt := 80) dX4_judge_75 (by decide) ?_
          refine e_istore_n (L' := [some (.ref a0), some (.int a1), none, some (.int b4), some (.int b4)]) (pc := 80) dX4_judge_80 rfl (by decide) rfl ?_
          refine e_aload_n (pc := 81) dX4_judge_81 rfl rfl ?_
          refine e_callV (pc := 82) (av := []) (S := []) (c0 := 3) rfl rfl ok_X4_dayOn ⟨Nat.le_of_ble_eq_true rfl, Nat.le_of_ble_eq_true rfl⟩ hv_X4_149 dX4_judge_82 (s_X4_dayOn a0 w14) rfl rfl (Nat.le_of_ble_eq_true rfl) (fun _ w17 => ?_)
          refine e_iinc (L' := [some (.ref a0), some (.int a1), none, some (.int b4), some (.int (b4 + 1))]) (pc := 85) (v := 1) dX4_judge_85 (by decide) rfl kc_1 rfl ?_
          refine e_goto (pc := 88) (tgt := 27) dX4_judge_88 (by decide) ?_
          exact hk27 b4 (b4 + 1) w17
def f_X4_judge (a0 : Nat) (a1 : Int32) (w : aW) : Option (Int32 × aW) :=
  (sF 3 w a0 19 (.int (0 : Int32))).bind fun w1 =>
  cV 3 w1 a0 (bk (f_X4_wrongRow a0 a1 w1) fun x3 w2 =>
  if (0 : Int32) ≤ x3 then
    cV 3 w2 a0 (bk (f_X4_think a0 w2) fun _ w4 =>
    loop3 (c_X4_judge_27 a0 a1) a_fuel (-4 : Int32) (0 : Int32) w4)
  else
    some (x3, w2))
theorem s_X4_judge (a0 : Nat) (a1 : Int32) (w : aW) : Sp rvI M_X4_judge [.ref a0, .int a1] w (f_X4_judge a0 a1 w) := by
  refine e_entry [some (.ref a0), some (.int a1), none, none, none] (by decide +kernel) (Nat.le_of_ble_eq_true rfl) (fun _ => rfl) ?_
  unfold f_X4_judge
  refine e_aload_n (pc := 0) dX4_judge_0 rfl rfl ?_
  refine e_iconst (pc := 1) dX4_judge_1 kc_0 ?_
  refine e_put (pc := 2) dX4_judge_2 hw_X4_80 (fun _ => rfl) (fun _ => rfl) (fun w1 => ?_)
  refine e_aload_n (pc := 5) dX4_judge_5 rfl rfl ?_
  refine e_iload_n (pc := 6) dX4_judge_6 rfl rfl ?_
  refine e_callV (pc := 7) (av := [.int a1]) (S := []) (c0 := 3) rfl rfl ok_X4_wrongRow ⟨Nat.le_of_ble_eq_true rfl, Nat.le_of_ble_eq_true rfl⟩ hv_X4_215 dX4_judge_7 (s_X4_wrongRow a0 a1 w1) rfl rfl (Nat.le_of_ble_eq_true rfl) (fun x3 w2 => ?_)
  refine e_istore_n (L' := [some (.ref a0), some (.int a1), some (.int x3), none, none]) (pc := 10) dX4_judge_10 rfl (by decide) rfl ?_
  refine e_iload_n (pc := 11) dX4_judge_11 rfl rfl ?_
  refine e_if_ge (pc := 12) (tgt := 17) dX4_judge_12 (by decide) (fun _ => ?_) (fun _ => ?_)
  · refine e_bipush (pc := 17) dX4_judge_17 kb_m4 ?_
    refine e_istore_n (L' := [some (.ref a0), some (.int a1), some (.int x3), some (.int (-4 : Int32)), none]) (pc := 19) dX4_judge_19 rfl (by decide) rfl ?_
    refine e_aload_n (pc := 20) dX4_judge_20 rfl rfl ?_
    refine e_callV (pc := 21) (av := []) (S := []) (c0 := 3) rfl rfl ok_X4_think ⟨Nat.le_of_ble_eq_true rfl, Nat.le_of_ble_eq_true rfl⟩ hv_X4_221 dX4_judge_21 (s_X4_think a0 w2) rfl rfl (Nat.le_of_ble_eq_true rfl) (fun _ w4 => ?_)
    refine e_iconst (pc := 24) dX4_judge_24 kc_0 ?_
    refine e_istore (L' := [some (.ref a0), some (.int a1), some (.int x3), some (.int (-4 : Int32)), some (.int (0 : Int32))]) (pc := 25) dX4_judge_25 (by decide) rfl ?_
    refine e_forget (L2 := [some (.ref a0), some (.int a1), none, some (.int (-4 : Int32)), some (.int (0 : Int32))]) (And.intro rfl (And.intro rfl (And.intro rfl (And.intro rfl trivial)))) ?_
    exact e_loop3 (L := fun b3 b4 => [some (.ref a0), some (.int a1), none, some (.int b3), some (.int b4)]) (S := fun b3 b4 => []) (fun kf hkf => t_X4_judge_27 a0 a1  kf hkf) _ (-4 : Int32) (0 : Int32) w4
  · refine e_iload_n (pc := 15) dX4_judge_15 rfl rfl ?_
    exact e_iret (pc := 16) dX4_judge_16 rfl rfl
def M_X4_drawBelow : aM := (yX4_drawBelow, cX4_drawBelow, 2, (some .int), 0, 0)
theorem ok_X4_drawBelow : a_okM M_X4_drawBelow 1 := ⟨⟨by decide +kernel, by decide +kernel⟩, by decide +kernel, a_in 1397 (by decide +kernel) rfl, a_in 79 (by decide +kernel) rfl⟩
theorem dX4_drawBelow_0 : decode M_X4_drawBelow.2.1 0 = .ok (.aload_n 0, 1) := by decide +kernel
theorem dX4_drawBelow_1 : decode M_X4_drawBelow.2.1 1 = .ok (.aload_n 0, 1) := by decide +kernel
theorem dX4_drawBelow_2 : decode M_X4_drawBelow.2.1 2 = .ok (.getfield 359, 3) := by decide +kernel
theorem dX4_drawBelow_5 : decode M_X4_drawBelow.2.1 5 = .ok (.ldc_w 362, 3) := by decide +kernel
theorem dX4_drawBelow_8 : decode M_X4_drawBelow.2.1 8 = .ok (.imul, 1) := by decide +kernel
theorem dX4_drawBelow_9 : decode M_X4_drawBelow.2.1 9 = .ok (.sipush 12345, 3) := by decide +kernel
theorem dX4_drawBelow_12 : decode M_X4_drawBelow.2.1 12 = .ok (.iadd, 1) := by decide +kernel
theorem dX4_drawBelow_13 : decode M_X4_drawBelow.2.1 13 = .ok (.putfield 359, 3) := by decide +kernel
theorem dX4_drawBelow_16 : decode M_X4_drawBelow.2.1 16 = .ok (.aload_n 0, 1) := by decide +kernel
theorem dX4_drawBelow_17 : decode M_X4_drawBelow.2.1 17 = .ok (.getfield 359, 3) := by decide +kernel
theorem dX4_drawBelow_20 : decode M_X4_drawBelow.2.1 20 = .ok (.ldc_w 363, 3) := by decide +kernel
theorem dX4_drawBelow_23 : decode M_X4_drawBelow.2.1 23 = .ok (.iand, 1) := by decide +kernel
theorem dX4_drawBelow_24 : decode M_X4_drawBelow.2.1 24 = .ok (.ldc_w 364, 3) := by decide +kernel
theorem dX4_drawBelow_27 : decode M_X4_drawBelow.2.1 27 = .ok (.idiv, 1) := by decide +kernel
theorem dX4_drawBelow_28 : decode M_X4_drawBelow.2.1 28 = .ok (.iload_n 1, 1) := by decide +kernel
theorem dX4_drawBelow_29 : decode M_X4_drawBelow.2.1 29 = .ok (.irem, 1) := by decide +kernel
theorem dX4_drawBelow_30 : decode M_X4_drawBelow.2.1 30 = .ok (.ireturn, 1) := by decide +kernel
theorem hs_X4_359 : a_fs RX4 359 3 35 := ⟨RX4, TX4, 37, rfl, tin_X4, by decide, a_in 900 (by decide +kernel) rfl⟩
theorem hw_X4_359 : a_fw RX4 359 3 35 (.int) := ⟨RX4, TX4, 37, tyX4, rfl, tin_X4, by decide, a_in 900 (by decide +kernel) rfl, tyX4_ok, nmX4, rfl, by decide +kernel⟩
def f_X4_drawBelow (a0 : Nat) (a1 : Int32) (w : aW) : Option (Int32 × aW) :=
  (gI 3 w a0 35).bind fun x1 =>
  (sF 3 w a0 35 (.int ((x1 * (1103515245 : Int32)) + (12345 : Int32)))).bind fun w2 =>
  (gI 3 w2 a0 35).bind fun x3 =>
  if a1 = 0 then none else
  some ((((x3 &&& (2147483647 : Int32)) / (65536 : Int32)) - ((x3 &&& (2147483647 : Int32)) / (65536 : Int32)) / a1 * a1), w2)
theorem s_X4_drawBelow (a0 : Nat) (a1 : Int32) (w : aW) : Sp rvI M_X4_drawBelow [.ref a0, .int a1] w (f_X4_drawBelow a0 a1 w) := by
  refine e_entry [some (.ref a0), some (.int a1)] (by decide +kernel) (Nat.le_of_ble_eq_true rfl) (fun _ => rfl) ?_
  unfold f_X4_drawBelow
  refine e_aload_n (pc := 0) dX4_drawBelow_0 rfl rfl ?_
  refine e_aload_n (pc := 1) dX4_drawBelow_1 rfl rfl ?_
  refine e_getI (pc := 2) dX4_drawBelow_2 hs_X4_359 (fun x1 => ?_)
  refine e_ldcw (pc := 5) (v := 1103515245) dX4_drawBelow_5 (a_in 1398 (by decide +kernel) rfl) ?_
  refine e_imul (pc := 8) dX4_drawBelow_8 ?_
  refine e_sipush (pc := 9) dX4_drawBelow_9 ks_12345 ?_
  refine e_iadd (pc := 12) dX4_drawBelow_12 ?_
  refine e_put (pc := 13) dX4_drawBelow_13 hw_X4_359 (fun _ => rfl) (fun _ => rfl) (fun w2 => ?_)
  refine e_aload_n (pc := 16) dX4_drawBelow_16 rfl rfl ?_
  refine e_getI (pc := 17) dX4_drawBelow_17 hs_X4_359 (fun x3 => ?_)
  refine e_ldcw (pc := 20) (v := 2147483647) dX4_drawBelow_20 (a_in 1399 (by decide +kernel) rfl) ?_
  refine e_iand (pc := 23) dX4_drawBelow_23 ?_
  refine e_ldcw (pc := 24) (v := 65536) dX4_drawBelow_24 (a_in 1400 (by decide +kernel) rfl) ?_
  refine e_idiv (pc := 27) dX4_drawBelow_27 (by decide) ?_
  refine e_iload_n (pc := 28) dX4_drawBelow_28 rfl rfl ?_
  refine e_chk (fun h4 => ?_)
  refine e_irem (pc := 29) dX4_drawBelow_29 h4 ?_
  exact e_iret (pc := 30) dX4_drawBelow_30 rfl rfl
def M_X4_allGrief : aM := (yX4_allGrief, cX4_allGrief, 3, (some .int), 0, 0)
theorem ok_X4_allGrief : a_okM M_X4_allGrief 0 := ⟨⟨by decide +kernel, by decide +kernel⟩, by decide +kernel, a_in 1393 (by decide +kernel) rfl, a_in 79 (by decide +kernel) rfl⟩
theorem dX4_allGrief_0 : decode M_X4_allGrief.2.1 0 = .ok (.iconst 0, 1) := by decide +kernel
theorem dX4_allGrief_1 : decode M_X4_allGrief.2.1 1 = .ok (.istore_n 1, 1) := by decide +kernel
theorem dX4_allGrief_2 : decode M_X4_allGrief.2.1 2 = .ok (.iconst 0, 1) := by decide +kernel
theorem dX4_allGrief_3 : decode M_X4_allGrief.2.1 3 = .ok (.istore_n 2, 1) := by decide +kernel
theorem dX4_allGrief_4 : decode M_X4_allGrief.2.1 4 = .ok (.iload_n 2, 1) := by decide +kernel
theorem dX4_allGrief_5 : decode M_X4_allGrief.2.1 5 = .ok (.iconst 5, 1) := by decide +kernel
theorem dX4_allGrief_6 : decode M_X4_allGrief.2.1 6 = .ok (.if_icmp .ge 18, 3) := by decide +kernel
theorem dX4_allGrief_9 : decode M_X4_allGrief.2.1 9 = .ok (.iload_n 1, 1) := by decide +kernel
theorem dX4_allGrief_10 : decode M_X4_allGrief.2.1 10 = .ok (.aload_n 0, 1) := by decide +kernel
theorem dX4_allGrief_11 : decode M_X4_allGrief.2.1 11 = .ok (.getfield 34, 3) := by decide +kernel
theorem dX4_allGrief_14 : decode M_X4_allGrief.2.1 14 = .ok (.iload_n 2, 1) := by decide +kernel
theorem dX4_allGrief_15 : decode M_X4_allGrief.2.1 15 = .ok (.iaload, 1) := by decide +kernel
theorem dX4_allGrief_16 : decode M_X4_allGrief.2.1 16 = .ok (.iadd, 1) := by decide +kernel
theorem dX4_allGrief_17 : decode M_X4_allGrief.2.1 17 = .ok (.istore_n 1, 1) := by decide +kernel
theorem dX4_allGrief_18 : decode M_X4_allGrief.2.1 18 = .ok (.iinc 2 1, 3) := by decide +kernel
theorem dX4_allGrief_21 : decode M_X4_allGrief.2.1 21 = .ok (.goto (-17), 3) := by decide +kernel
theorem dX4_allGrief_24 : decode M_X4_allGrief.2.1 24 = .ok (.iload_n 1, 1) := by decide +kernel
theorem dX4_allGrief_25 : decode M_X4_allGrief.2.1 25 = .ok (.ireturn, 1) := by decide +kernel
def c_X4_allGrief_4 (a0 : Nat) (k4 : Int32 → Int32 → aW → Option (Int32 × aW)) (b1 : Int32) (b2 : Int32) (w : aW) : Option (Int32 × aW) :=
  if (5 : Int32) ≤ b2 then
    some (b1, w)
  else
    (gR 3 w a0 10).bind fun r1 =>
    (gA w r1 b2).bind fun x2 =>
    k4 (b1 + x2) (b2 + 1) w
theorem t_X4_allGrief_4 (a0 : Nat) (k4 : Int32 → Int32 → aW → Option (Int32 × aW)) (hk4 : ∀ (b1 : Int32) (b2 : Int32) (w : aW), Ev rvI M_X4_allGrief 4 [some (.ref a0), some (.int b1), some (.int b2)] [] w (k4 b1 b2 w)) (b1 : Int32) (b2 : Int32) (w : aW) : Ev rvI M_X4_allGrief 4 [some (.ref a0), some (.int b1), some (.int b2)] [] w (c_X4_allGrief_4 a0 k4 b1 b2 w) := by
  unfold c_X4_allGrief_4
  refine e_iload_n (pc := 4) dX4_allGrief_4 rfl rfl ?_
  refine e_iconst (pc := 5) dX4_allGrief_5 kc_5 ?_
  refine e_icmp_ge (pc := 6) (tgt := 24) dX4_allGrief_6 (by decide) (fun _ => ?_) (fun _ => ?_)
  · refine e_iload_n (pc := 24) dX4_allGrief_24 rfl rfl ?_
    exact e_iret (pc := 25) dX4_allGrief_25 rfl rfl
  · refine e_iload_n (pc := 9) dX4_allGrief_9 rfl rfl ?_
    refine e_aload_n (pc := 10) dX4_allGrief_10 rfl rfl ?_
    refine e_getR (pc := 11) dX4_allGrief_11 hs_X4_34 (fun r1 => ?_)
    refine e_iload_n (pc := 14) dX4_allGrief_14 rfl rfl ?_
    refine e_iald (pc := 15) dX4_allGrief_15 (fun x2 => ?_)
    refine e_iadd (pc := 16) dX4_allGrief_16 ?_
    refine e_istore_n (L' := [some (.ref a0), some (.int (b1 + x2)), some (.int b2)]) (pc := 17) dX4_allGrief_17 rfl (by decide) rfl ?_
    refine e_iinc (L' := [some (.ref a0), some (.int (b1 + x2)), some (.int (b2 + 1))]) (pc := 18) (v := 1) dX4_allGrief_18 (by decide) rfl kc_1 rfl ?_
    refine e_goto (pc := 21) (tgt := 4) dX4_allGrief_21 (by decide) ?_
    exact hk4 (b1 + x2) (b2 + 1) w
def f_X4_allGrief (a0 : Nat) (w : aW) : Option (Int32 × aW) :=
  loop3 (c_X4_allGrief_4 a0) a_fuel (0 : Int32) (0 : Int32) w
theorem s_X4_allGrief (a0 : Nat) (w : aW) : Sp rvI M_X4_allGrief [.ref a0] w (f_X4_allGrief a0 w) := by
  refine e_entry [some (.ref a0), none, none] (by decide +kernel) (Nat.le_of_ble_eq_true rfl) (fun _ => rfl) ?_
  unfold f_X4_allGrief
  refine e_iconst (pc := 0) dX4_allGrief_0 kc_0 ?_
  refine e_istore_n (L' := [some (.ref a0), some (.int (0 : Int32)), none]) (pc := 1) dX4_allGrief_1 rfl (by decide) rfl ?_
  refine e_iconst (pc := 2) dX4_allGrief_2 kc_0 ?_
  refine e_istore_n (L' := [some (.ref a0), some (.int (0 : Int32)), some (.int (0 : Int32))]) (pc := 3) dX4_allGrief_3 rfl (by decide) rfl ?_
  exact e_loop3 (L := fun b1 b2 => [some (.ref a0), some (.int b1), some (.int b2)]) (S := fun b1 b2 => []) (fun kf hkf => t_X4_allGrief_4 a0  kf hkf) _ (0 : Int32) (0 : Int32) w
def M_X4_mountains : aM := (yX4_mountains, cX4_mountains, 8, (some .int), 6, 135)
theorem ok_X4_mountains : a_okM M_X4_mountains 3 := ⟨⟨by decide +kernel, by decide +kernel⟩, by decide +kernel, a_in 1389 (by decide +kernel) rfl, a_in 79 (by decide +kernel) rfl⟩
theorem dX4_mountains_0 : decode M_X4_mountains.2.1 0 = .ok (.aload_n 0, 1) := by decide +kernel
theorem dX4_mountains_1 : decode M_X4_mountains.2.1 1 = .ok (.iconst 0, 1) := by decide +kernel
theorem dX4_mountains_2 : decode M_X4_mountains.2.1 2 = .ok (.putfield 80, 3) := by decide +kernel
theorem dX4_mountains_5 : decode M_X4_mountains.2.1 5 = .ok (.iload_n 1, 1) := by decide +kernel
theorem dX4_mountains_6 : decode M_X4_mountains.2.1 6 = .ok (.i2l, 1) := by decide +kernel
theorem dX4_mountains_7 : decode M_X4_mountains.2.1 7 = .ok (.lconst 1, 1) := by decide +kernel
theorem dX4_mountains_8 : decode M_X4_mountains.2.1 8 = .ok (.ldc2_w 310, 3) := by decide +kernel
theorem dX4_mountains_11 : decode M_X4_mountains.2.1 11 = .ok (.invokestatic 86, 3) := by decide +kernel
theorem dX4_mountains_14 : decode M_X4_mountains.2.1 14 = .ok (.ifCond .eq 13, 3) := by decide +kernel
theorem dX4_mountains_17 : decode M_X4_mountains.2.1 17 = .ok (.iload_n 3, 1) := by decide +kernel
theorem dX4_mountains_18 : decode M_X4_mountains.2.1 18 = .ok (.i2l, 1) := by decide +kernel
theorem dX4_mountains_19 : decode M_X4_mountains.2.1 19 = .ok (.lconst 0, 1) := by decide +kernel
theorem dX4_mountains_20 : decode M_X4_mountains.2.1 20 = .ok (.lconst 1, 1) := by decide +kernel
theorem dX4_mountains_21 : decode M_X4_mountains.2.1 21 = .ok (.invokestatic 86, 3) := by decide +kernel
theorem dX4_mountains_24 : decode M_X4_mountains.2.1 24 = .ok (.ifCond .ne 5, 3) := by decide +kernel
theorem dX4_mountains_27 : decode M_X4_mountains.2.1 27 = .ok (.iconst (-1), 1) := by decide +kernel
theorem dX4_mountains_28 : decode M_X4_mountains.2.1 28 = .ok (.ireturn, 1) := by decide +kernel
theorem dX4_mountains_29 : decode M_X4_mountains.2.1 29 = .ok (.aload_n 0, 1) := by decide +kernel
theorem dX4_mountains_30 : decode M_X4_mountains.2.1 30 = .ok (.iload_n 2, 1) := by decide +kernel
theorem dX4_mountains_31 : decode M_X4_mountains.2.1 31 = .ok (.putfield 359, 3) := by decide +kernel
theorem dX4_mountains_34 : decode M_X4_mountains.2.1 34 = .ok (.iconst 0, 1) := by decide +kernel
theorem dX4_mountains_35 : decode M_X4_mountains.2.1 35 = .ok (.istore 4, 2) := by decide +kernel
theorem dX4_mountains_37 : decode M_X4_mountains.2.1 37 = .ok (.aload_n 0, 1) := by decide +kernel
theorem dX4_mountains_38 : decode M_X4_mountains.2.1 38 = .ok (.invokevirtual 365, 3) := by decide +kernel
theorem dX4_mountains_41 : decode M_X4_mountains.2.1 41 = .ok (.istore 5, 2) := by decide +kernel
theorem dX4_mountains_43 : decode M_X4_mountains.2.1 43 = .ok (.aload_n 0, 1) := by decide +kernel
theorem dX4_mountains_44 : decode M_X4_mountains.2.1 44 = .ok (.invokevirtual 221, 3) := by decide +kernel
theorem dX4_mountains_47 : decode M_X4_mountains.2.1 47 = .ok (.iconst 0, 1) := by decide +kernel
theorem dX4_mountains_48 : decode M_X4_mountains.2.1 48 = .ok (.istore 6, 2) := by decide +kernel
theorem dX4_mountains_50 : decode M_X4_mountains.2.1 50 = .ok (.iload 6, 2) := by decide +kernel
theorem dX4_mountains_52 : decode M_X4_mountains.2.1 52 = .ok (.iload_n 1, 1) := by decide +kernel
theorem dX4_mountains_53 : decode M_X4_mountains.2.1 53 = .ok (.if_icmp .ge 98, 3) := by decide +kernel
theorem dX4_mountains_56 : decode M_X4_mountains.2.1 56 = .ok (.iconst 0, 1) := by decide +kernel
theorem dX4_mountains_57 : decode M_X4_mountains.2.1 57 = .ok (.istore 7, 2) := by decide +kernel
theorem dX4_mountains_59 : decode M_X4_mountains.2.1 59 = .ok (.iload 7, 2) := by decide +kernel
theorem dX4_mountains_61 : decode M_X4_mountains.2.1 61 = .ok (.aload_n 0, 1) := by decide +kernel
theorem dX4_mountains_62 : decode M_X4_mountains.2.1 62 = .ok (.getfield 92, 3) := by decide +kernel
theorem dX4_mountains_65 : decode M_X4_mountains.2.1 65 = .ok (.if_icmp .ge 44, 3) := by decide +kernel
theorem dX4_mountains_68 : decode M_X4_mountains.2.1 68 = .ok (.aload_n 0, 1) := by decide +kernel
theorem dX4_mountains_69 : decode M_X4_mountains.2.1 69 = .ok (.getfield 16, 3) := by decide +kernel
theorem dX4_mountains_72 : decode M_X4_mountains.2.1 72 = .ok (.iload 7, 2) := by decide +kernel
theorem dX4_mountains_74 : decode M_X4_mountains.2.1 74 = .ok (.aload_n 0, 1) := by decide +kernel
theorem dX4_mountains_75 : decode M_X4_mountains.2.1 75 = .ok (.getfield 107, 3) := by decide +kernel
theorem dX4_mountains_78 : decode M_X4_mountains.2.1 78 = .ok (.iload 7, 2) := by decide +kernel
theorem dX4_mountains_80 : decode M_X4_mountains.2.1 80 = .ok (.invokestatic 110, 3) := by decide +kernel
theorem dX4_mountains_83 : decode M_X4_mountains.2.1 83 = .ok (.ifCond .eq 12, 3) := by decide +kernel
theorem dX4_mountains_86 : decode M_X4_mountains.2.1 86 = .ok (.aload_n 0, 1) := by decide +kernel
theorem dX4_mountains_87 : decode M_X4_mountains.2.1 87 = .ok (.bipush 16, 2) := by decide +kernel
theorem dX4_mountains_89 : decode M_X4_mountains.2.1 89 = .ok (.invokevirtual 368, 3) := by decide +kernel
theorem dX4_mountains_92 : decode M_X4_mountains.2.1 92 = .ok (.goto 10, 3) := by decide +kernel
theorem dX4_mountains_95 : decode M_X4_mountains.2.1 95 = .ok (.aload_n 0, 1) := by decide +kernel
theorem dX4_mountains_96 : decode M_X4_mountains.2.1 96 = .ok (.getfield 16, 3) := by decide +kernel
theorem dX4_mountains_99 : decode M_X4_mountains.2.1 99 = .ok (.iload 7, 2) := by decide +kernel
theorem dX4_mountains_101 : decode M_X4_mountains.2.1 101 = .ok (.iaload, 1) := by decide +kernel
theorem dX4_mountains_102 : decode M_X4_mountains.2.1 102 = .ok (.iastore, 1) := by decide +kernel
theorem dX4_mountains_103 : decode M_X4_mountains.2.1 103 = .ok (.iinc 7 1, 3) := by decide +kernel
theorem dX4_mountains_106 : decode M_X4_mountains.2.1 106 = .ok (.goto (-47), 3) := by decide +kernel
theorem dX4_mountains_109 : decode M_X4_mountains.2.1 109 = .ok (.aload_n 0, 1) := by decide +kernel
theorem dX4_mountains_110 : decode M_X4_mountains.2.1 110 = .ok (.bipush 12, 2) := by decide +kernel
theorem dX4_mountains_112 : decode M_X4_mountains.2.1 112 = .ok (.invokevirtual 193, 3) := by decide +kernel
theorem dX4_mountains_115 : decode M_X4_mountains.2.1 115 = .ok (.iload 4, 2) := by decide +kernel
theorem dX4_mountains_117 : decode M_X4_mountains.2.1 117 = .ok (.iload_n 3, 1) := by decide +kernel
theorem dX4_mountains_118 : decode M_X4_mountains.2.1 118 = .ok (.ifCond .ne 13, 3) := by decide +kernel
theorem dX4_mountains_121 : decode M_X4_mountains.2.1 121 = .ok (.aload_n 0, 1) := by decide +kernel
theorem dX4_mountains_122 : decode M_X4_mountains.2.1 122 = .ok (.invokevirtual 288, 3) := by decide +kernel
theorem dX4_mountains_125 : decode M_X4_mountains.2.1 125 = .ok (.invokestatic 271, 3) := by decide +kernel
theorem dX4_mountains_128 : decode M_X4_mountains.2.1 128 = .ok (.goto 10, 3) := by decide +kernel
theorem dX4_mountains_131 : decode M_X4_mountains.2.1 131 = .ok (.aload_n 0, 1) := by decide +kernel
theorem dX4_mountains_132 : decode M_X4_mountains.2.1 132 = .ok (.invokevirtual 365, 3) := by decide +kernel
theorem dX4_mountains_135 : decode M_X4_mountains.2.1 135 = .ok (.iload 5, 2) := by decide +kernel
theorem dX4_mountains_137 : decode M_X4_mountains.2.1 137 = .ok (.isub, 1) := by decide +kernel
theorem dX4_mountains_138 : decode M_X4_mountains.2.1 138 = .ok (.iadd, 1) := by decide +kernel
theorem dX4_mountains_139 : decode M_X4_mountains.2.1 139 = .ok (.istore 4, 2) := by decide +kernel
theorem dX4_mountains_141 : decode M_X4_mountains.2.1 141 = .ok (.aload_n 0, 1) := by decide +kernel
theorem dX4_mountains_142 : decode M_X4_mountains.2.1 142 = .ok (.invokevirtual 227, 3) := by decide +kernel
theorem dX4_mountains_145 : decode M_X4_mountains.2.1 145 = .ok (.iinc 6 1, 3) := by decide +kernel
theorem dX4_mountains_148 : decode M_X4_mountains.2.1 148 = .ok (.goto (-98), 3) := by decide +kernel
theorem dX4_mountains_151 : decode M_X4_mountains.2.1 151 = .ok (.iload 4, 2) := by decide +kernel
theorem dX4_mountains_153 : decode M_X4_mountains.2.1 153 = .ok (.ireturn, 1) := by decide +kernel
theorem hv_X4_365 : a_okV RX4 M_X4_allGrief 365 := ⟨a_in 1390 (by decide +kernel) rfl, a_in 1392 (by decide +kernel) rfl, a_in 73 (by decide +kernel) rfl⟩
theorem hv_X4_368 : a_okV RX4 M_X4_drawBelow 368 := ⟨a_in 1394 (by decide +kernel) rfl, a_in 1396 (by decide +kernel) rfl, a_in 74 (by decide +kernel) rfl⟩
def c_X4_mountains_59 (a0 : Nat) (a1 : Int32) (a2 : Int32) (a3 : Int32) (k50 : Int32 → Int32 → Int32 → aW → Option (Int32 × aW)) (k59 : Int32 → Int32 → Int32 → Int32 → aW → Option (Int32 × aW)) (b4 : Int32) (b5 : Int32) (b6 : Int32) (b7 : Int32) (w : aW) : Option (Int32 × aW) :=
  (gI 3 w a0 0).bind fun x10 =>
  if x10 ≤ b7 then
    cV 3 w a0 (bk (f_X4_goDays a0 (12 : Int32) w) fun _ w11 =>
    if ¬ a3 = (0 : Int32) then
      cV 3 w11 a0 (bk (f_X4_allGrief a0 w11) fun x13 w12 =>
      cV 3 w12 a0 (bk (f_X4_again a0 w12) fun _ w14 =>
      k50 (b4 + (x13 - b5)) b5 (b6 + 1) w14))
    else
      cV 3 w11 a0 (bk (f_X4_calledAll a0 w11) fun x16 w15 =>
      bk (f_X4_onesOf x16 w15) fun x18 w17 =>
      cV 3 w17 a0 (bk (f_X4_again a0 w17) fun _ w19 =>
      k50 (b4 + x18) b5 (b6 + 1) w19)))
  else
    (gR 3 w a0 3).bind fun r20 =>
    (gI 3 w a0 6).bind fun x21 =>
    bk (f_X4_hasBit x21 b7 w) fun x23 w22 =>
    if x23 = (0 : Int32) then
      (gR 3 w22 a0 3).bind fun r24 =>
      (gA w22 r24 b7).bind fun x25 =>
      (sA w22 r20 b7 x25).bind fun w26 =>
      k59 b4 b5 b6 (b7 + 1) w26
    else
      cV 3 w22 a0 (bk (f_X4_drawBelow a0 (16 : Int32) w22) fun x28 w27 =>
      (sA w27 r20 b7 x28).bind fun w29 =>
      k59 b4 b5 b6 (b7 + 1) w29)
theorem t_X4_mountains_59 (a0 : Nat) (a1 : Int32) (a2 : Int32) (a3 : Int32) (k50 : Int32 → Int32 → Int32 → aW → Option (Int32 × aW)) (hk50 : ∀ (b4 : Int32) (b5 : Int32) (b6 : Int32) (w : aW), Ev rvI M_X4_mountains 50 [some (.ref a0), some (.int a1), none, some (.int a3), some (.int b4), some (.int b5), some (.int b6), none] [] w (k50 b4 b5 b6 w)) (k59 : Int32 → Int32 → Int32 → Int32 → aW → Option (Int32 × aW)) (hk59 : ∀ (b4 : Int32) (b5 : Int32) (b6 : Int32) (b7 : Int32) (w : aW), Ev rvI M_X4_mountains 59 [some (.ref a0), some (.int a1), none, some (.int a3), some (.int b4), some (.int b5), some (.int b6), some (.int b7)] [] w (k59 b4 b5 b6 b7 w)) (b4 : Int32) (b5 : Int32) (b6 : Int32) (b7 : Int32) (w : aW) : Ev rvI M_X4_mountains 59 [some (.ref a0), some (.int a1), none, some (.int a3), some (.int b4), some (.int b5), some (.int b6), some (.int b7)] [] w (c_X4_mountains_59 a0 a1 a2 a3 k50 k59 b4 b5 b6 b7 w) := by
  unfold c_X4_mountains_59
  refine e_iload (pc := 59) dX4_mountains_59 rfl ?_
  refine e_aload_n (pc := 61) dX4_mountains_61 rfl rfl ?_
  refine e_getI (pc := 62) dX4_mountains_62 hs_X4_92 (fun x10 => ?_)
  refine e_icmp_ge (pc := 65) (tgt := 109) dX4_mountains_65 (by decide) (fun _ => ?_) (fun _ => ?_)
  · refine e_aload_n (pc := 109) dX4_mountains_109 rfl rfl ?_
    refine e_bipush (pc := 110) dX4_mountains_110 kb_12 ?_
    refine e_callV (pc := 112) (av := [.int (12 : Int32)]) (S := []) (c0 := 3) rfl rfl ok_X4_goDays ⟨Nat.le_of_ble_eq_true rfl, Nat.le_of_ble_eq_true rfl⟩ hv_X4_193 dX4_mountains_112 (s_X4_goDays a0 (12 : Int32) w) rfl rfl (Nat.le_of_ble_eq_true rfl) (fun _ w11 => ?_)
    refine e_iload (pc := 115) dX4_mountains_115 rfl ?_
    refine e_iload_n (pc := 117) dX4_mountains_117 rfl rfl ?_
    refine e_if_ne (pc := 118) (tgt := 131) dX4_mountains_118 (by decide) (fun _ => ?_) (fun _ => ?_)
    · refine e_aload_n (pc := 131) dX4_mountains_131 rfl rfl ?_
      refine e_callV (pc := 132) (av := []) (S := [.int b4]) (c0 := 3) rfl rfl ok_X4_allGrief ⟨Nat.le_of_ble_eq_true rfl, Nat.le_of_ble_eq_true rfl⟩ hv_X4_365 dX4_mountains_132 (s_X4_allGrief a0 w11) rfl rfl (Nat.le_of_ble_eq_true rfl) (fun x13 w12 => ?_)
      refine e_iload (pc := 135) dX4_mountains_135 rfl ?_
      refine e_isub (pc := 137) dX4_mountains_137 ?_
      refine e_iadd (pc := 138) dX4_mountains_138 ?_
      refine e_istore (L' := [some (.ref a0), some (.int a1), none, some (.int a3), some (.int (b4 + (x13 - b5))), some (.int b5), some (.int b6), some (.int b7)]) (pc := 139) dX4_mountains_139 (by decide) rfl ?_
      refine e_aload_n (pc := 141) dX4_mountains_141 rfl rfl ?_
      refine e_callV (pc := 142) (av := []) (S := []) (c0 := 3) rfl rfl ok_X4_again ⟨Nat.le_of_ble_eq_true rfl, Nat.le_of_ble_eq_true rfl⟩ hv_X4_227 dX4_mountains_142 (s_X4_again a0 w12) rfl rfl (Nat.le_of_ble_eq_true rfl) (fun _ w14 => ?_)
      refine e_iinc (L' := [some (.ref a0), some (.int a1), none, some (.int a3), some (.int (b4 + (x13 - b5))), some (.int b5), some (.int (b6 + 1)), some (.int b7)]) (pc := 145) (v := 1) dX4_mountains_145 (by decide) rfl kc_1 rfl ?_
      refine e_goto (pc := 148) (tgt := 50) dX4_mountains_148 (by decide) ?_
      refine e_forget (L2 := [some (.ref a0), some (.int a1), none, some (.int a3), some (.int (b4 + (x13 - b5))), some (.int b5), some (.int (b6 + 1)), none]) (And.intro rfl (And.intro rfl (And.intro rfl (And.intro rfl (And.intro rfl (And.intro rfl trivial)))))) ?_
      exact hk50 (b4 + (x13 - b5)) b5 (b6 + 1) w14
    · refine e_aload_n (pc := 121) dX4_mountains_121 rfl rfl ?_
      refine e_callV (pc := 122) (av := []) (S := [.int b4]) (c0 := 3) rfl rfl ok_X4_calledAll ⟨Nat.le_of_ble_eq_true rfl, Nat.le_of_ble_eq_true rfl⟩ hv_X4_288 dX4_mountains_122 (s_X4_calledAll a0 w11) rfl rfl (Nat.le_of_ble_eq_true rfl) (fun x16 w15 => ?_)
      refine e_callS (pc := 125) (av := [.int x16]) (S := [.int b4]) ok_X4_onesOf ⟨Nat.le_of_ble_eq_true rfl, Nat.le_of_ble_eq_true rfl⟩ ht_X4_271 dX4_mountains_125 (s_X4_onesOf x16 w15) rfl rfl (Nat.le_of_ble_eq_true rfl) (fun x18 w17 => ?_)
      refine e_goto (pc := 128) (tgt := 138) dX4_mountains_128 (by decide) ?_
      refine e_iadd (pc := 138) dX4_mountains_138 ?_
      refine e_istore (L' := [some (.ref a0), some (.int a1), none, some (.int a3), some (.int (b4 + x18)), some (.int b5), some (.int b6), some (.int b7)]) (pc := 139) dX4_mountains_139 (by decide) rfl ?_
      refine e_aload_n (pc := 141) dX4_mountains_141 rfl rfl ?_
      refine e_callV (pc := 142) (av := []) (S := []) (c0 := 3) rfl rfl ok_X4_again ⟨Nat.le_of_ble_eq_true rfl, Nat.le_of_ble_eq_true rfl⟩ hv_X4_227 dX4_mountains_142 (s_X4_again a0 w17) rfl rfl (Nat.le_of_ble_eq_true rfl) (fun _ w19 => ?_)
      refine e_iinc (L' := [some (.ref a0), some (.int a1), none, some (.int a3), some (.int (b4 + x18)), some (.int b5), some (.int (b6 + 1)), some (.int b7)]) (pc := 145) (v := 1) dX4_mountains_145 (by decide) rfl kc_1 rfl ?_
      refine e_goto (pc := 148) (tgt := 50) dX4_mountains_148 (by decide) ?_
      refine e_forget (L2 := [some (.ref a0), some (.int a1), none, some (.int a3), some (.int (b4 + x18)), some (.int b5), some (.int (b6 + 1)), none]) (And.intro rfl (And.intro rfl (And.intro rfl (And.intro rfl (And.intro rfl (And.intro rfl trivial)))))) ?_
      exact hk50 (b4 + x18) b5 (b6 + 1) w19
  · refine e_aload_n (pc := 68) dX4_mountains_68 rfl rfl ?_
    refine e_getR (pc := 69) dX4_mountains_69 hs_X4_16 (fun r20 => ?_)
    refine e_iload (pc := 72) dX4_mountains_72 rfl ?_
    refine e_aload_n (pc := 74) dX4_mountains_74 rfl rfl ?_
    refine e_getI (pc := 75) dX4_mountains_75 hs_X4_107 (fun x21 => ?_)
    refine e_iload (pc := 78) dX4_mountains_78 rfl ?_
    refine e_callS (pc := 80) (av := [.int x21, .int b7]) (S := [.int b7, .ref r20]) ok_X4_hasBit ⟨Nat.le_of_ble_eq_true rfl, Nat.le_of_ble_eq_true rfl⟩ ht_X4_110 dX4_mountains_80 (s_X4_hasBit x21 b7 w) rfl rfl (Nat.le_of_ble_eq_true rfl) (fun x23 w22 => ?_)
    refine e_if_eq (pc := 83) (tgt := 95) dX4_mountains_83 (by decide) (fun _ => ?_) (fun _ => ?_)
    · refine e_aload_n (pc := 95) dX4_mountains_95 rfl rfl ?_
      refine e_getR (pc := 96) dX4_mountains_96 hs_X4_16 (fun r24 => ?_)
      refine e_iload (pc := 99) dX4_mountains_99 rfl ?_
      refine e_iald (pc := 101) dX4_mountains_101 (fun x25 => ?_)
      refine e_iast (pc := 102) dX4_mountains_102 (fun w26 => ?_)
      refine e_iinc (L' := [some (.ref a0), some (.int a1), none, some (.int a3), some (.int b4), some (.int b5), some (.int b6), some (.int (b7 + 1))]) (pc := 103) (v := 1) dX4_mountains_103 (by decide) rfl kc_1 rfl ?_
      refine e_goto (pc := 106) (tgt := 59) dX4_mountains_106 (by decide) ?_
      exact hk59 b4 b5 b6 (b7 + 1) w26
    · refine e_aload_n (pc := 86) dX4_mountains_86 rfl rfl ?_
      refine e_bipush (pc := 87) dX4_mountains_87 kb_16 ?_
      refine e_callV (pc := 89) (av := [.int (16 : Int32)]) (S := [.int b7, .ref r20]) (c0 := 3) rfl rfl ok_X4_drawBelow ⟨Nat.le_of_ble_eq_true rfl, Nat.le_of_ble_eq_true rfl⟩ hv_X4_368 dX4_mountains_89 (s_X4_drawBelow a0 (16 : Int32) w22) rfl rfl (Nat.le_of_ble_eq_true rfl) (fun x28 w27 => ?_)
      refine e_goto (pc := 92) (tgt := 102) dX4_mountains_92 (by decide) ?_
      refine e_iast (pc := 102) dX4_mountains_102 (fun w29 => ?_)
      refine e_iinc (L' := [some (.ref a0), some (.int a1), none, some (.int a3), some (.int b4), some (.int b5), some (.int b6), some (.int (b7 + 1))]) (pc := 103) (v := 1) dX4_mountains_103 (by decide) rfl kc_1 rfl ?_
      refine e_goto (pc := 106) (tgt := 59) dX4_mountains_106 (by decide) ?_
      exact hk59 b4 b5 b6 (b7 + 1) w29
def c_X4_mountains_50 (a0 : Nat) (a1 : Int32) (a2 : Int32) (a3 : Int32) (k50 : Int32 → Int32 → Int32 → aW → Option (Int32 × aW)) (b4 : Int32) (b5 : Int32) (b6 : Int32) (w : aW) : Option (Int32 × aW) :=
  if a1 ≤ b6 then
    some (b4, w)
  else
    loop5 (c_X4_mountains_59 a0 a1 a2 a3 k50) a_fuel b4 b5 b6 (0 : Int32) w
theorem t_X4_mountains_50 (a0 : Nat) (a1 : Int32) (a2 : Int32) (a3 : Int32) (k50 : Int32 → Int32 → Int32 → aW → Option (Int32 × aW)) (hk50 : ∀ (b4 : Int32) (b5 : Int32) (b6 : Int32) (w : aW), Ev rvI M_X4_mountains 50 [some (.ref a0), some (.int a1), none, some (.int a3), some (.int b4), some (.int b5), some (.int b6), none] [] w (k50 b4 b5 b6 w)) (b4 : Int32) (b5 : Int32) (b6 : Int32) (w : aW) : Ev rvI M_X4_mountains 50 [some (.ref a0), some (.int a1), none, some (.int a3), some (.int b4), some (.int b5), some (.int b6), none] [] w (c_X4_mountains_50 a0 a1 a2 a3 k50 b4 b5 b6 w) := by
  unfold c_X4_mountains_50
  refine e_iload (pc := 50) dX4_mountains_50 rfl ?_
  refine e_iload_n (pc := 52) dX4_mountains_52 rfl rfl ?_
  refine e_icmp_ge (pc := 53) (tgt := 151) dX4_mountains_53 (by decide) (fun _ => ?_) (fun _ => ?_)
  · refine e_iload (pc := 151) dX4_mountains_151 rfl ?_
    exact e_iret (pc := 153) dX4_mountains_153 rfl rfl
  · refine e_iconst (pc := 56) dX4_mountains_56 kc_0 ?_
    refine e_istore (L' := [some (.ref a0), some (.int a1), none, some (.int a3), some (.int b4), some (.int b5), some (.int b6), some (.int (0 : Int32))]) (pc := 57) dX4_mountains_57 (by decide) rfl ?_
    exact e_loop5 (L := fun b4 b5 b6 b7 => [some (.ref a0), some (.int a1), none, some (.int a3), some (.int b4), some (.int b5), some (.int b6), some (.int b7)]) (S := fun b4 b5 b6 b7 => []) (fun kf hkf => t_X4_mountains_59 a0 a1 a2 a3 k50 hk50 kf hkf) _ b4 b5 b6 (0 : Int32) w
def f_X4_mountains (a0 : Nat) (a1 : Int32) (a2 : Int32) (a3 : Int32) (w : aW) : Option (Int32 × aW) :=
  (sF 3 w a0 19 (.int (0 : Int32))).bind fun w1 =>
  bk (f_X4_in a1.toInt64 (1 : Int64) (20 : Int64) w1) fun x3 w2 =>
  if x3 = (0 : Int32) then
    some ((-1 : Int32), w2)
  else
    bk (f_X4_in a3.toInt64 (0 : Int64) (1 : Int64) w2) fun x5 w4 =>
    if ¬ x5 = (0 : Int32) then
      (sF 3 w4 a0 35 (.int a2)).bind fun w6 =>
      cV 3 w6 a0 (bk (f_X4_allGrief a0 w6) fun x8 w7 =>
      cV 3 w7 a0 (bk (f_X4_think a0 w7) fun _ w9 =>
      loop4 (c_X4_mountains_50 a0 a1 a2 a3) a_fuel (0 : Int32) x8 (0 : Int32) w9))
    else
      some ((-1 : Int32), w4)
theorem s_X4_mountains (a0 : Nat) (a1 : Int32) (a2 : Int32) (a3 : Int32) (w : aW) : Sp rvI M_X4_mountains [.ref a0, .int a1, .int a2, .int a3] w (f_X4_mountains a0 a1 a2 a3 w) := by
  refine e_entry [some (.ref a0), some (.int a1), some (.int a2), some (.int a3), none, none, none, none] (by decide +kernel) (Nat.le_of_ble_eq_true rfl) (fun _ => rfl) ?_
  unfold f_X4_mountains
  refine e_aload_n (pc := 0) dX4_mountains_0 rfl rfl ?_
  refine e_iconst (pc := 1) dX4_mountains_1 kc_0 ?_
  refine e_put (pc := 2) dX4_mountains_2 hw_X4_80 (fun _ => rfl) (fun _ => rfl) (fun w1 => ?_)
  refine e_iload_n (pc := 5) dX4_mountains_5 rfl rfl ?_
  refine e_i2l (pc := 6) dX4_mountains_6 ?_
  refine e_lconst (pc := 7) (v := 1) dX4_mountains_7 (by decide) ?_
  refine e_ldc2 (pc := 8) (v := 20) dX4_mountains_8 (a_in 1280 (by decide +kernel) rfl) ?_
  refine e_callS (pc := 11) (av := [.long a1.toInt64, .long (1 : Int64), .long (20 : Int64)]) (S := []) ok_X4_in ⟨Nat.le_of_ble_eq_true rfl, Nat.le_of_ble_eq_true rfl⟩ ht_X4_86 dX4_mountains_11 (s_X4_in a1.toInt64 (1 : Int64) (20 : Int64) w1) rfl rfl (Nat.le_of_ble_eq_true rfl) (fun x3 w2 => ?_)
  refine e_if_eq (pc := 14) (tgt := 27) dX4_mountains_14 (by decide) (fun _ => ?_) (fun _ => ?_)
  · refine e_iconst (pc := 27) dX4_mountains_27 kc_m1 ?_
    exact e_iret (pc := 28) dX4_mountains_28 rfl rfl
  · refine e_iload_n (pc := 17) dX4_mountains_17 rfl rfl ?_
    refine e_i2l (pc := 18) dX4_mountains_18 ?_
    refine e_lconst (pc := 19) (v := 0) dX4_mountains_19 (by decide) ?_
    refine e_lconst (pc := 20) (v := 1) dX4_mountains_20 (by decide) ?_
    refine e_callS (pc := 21) (av := [.long a3.toInt64, .long (0 : Int64), .long (1 : Int64)]) (S := []) ok_X4_in ⟨Nat.le_of_ble_eq_true rfl, Nat.le_of_ble_eq_true rfl⟩ ht_X4_86 dX4_mountains_21 (s_X4_in a3.toInt64 (0 : Int64) (1 : Int64) w2) rfl rfl (Nat.le_of_ble_eq_true rfl) (fun x5 w4 => ?_)
    refine e_if_ne (pc := 24) (tgt := 29) dX4_mountains_24 (by decide) (fun _ => ?_) (fun _ => ?_)
    · refine e_aload_n (pc := 29) dX4_mountains_29 rfl rfl ?_
      refine e_iload_n (pc := 30) dX4_mountains_30 rfl rfl ?_
      refine e_put (pc := 31) dX4_mountains_31 hw_X4_359 (fun _ => rfl) (fun _ => rfl) (fun w6 => ?_)
      refine e_iconst (pc := 34) dX4_mountains_34 kc_0 ?_
      refine e_istore (L' := [some (.ref a0), some (.int a1), some (.int a2), some (.int a3), some (.int (0 : Int32)), none, none, none]) (pc := 35) dX4_mountains_35 (by decide) rfl ?_
      refine e_aload_n (pc := 37) dX4_mountains_37 rfl rfl ?_
      refine e_callV (pc := 38) (av := []) (S := []) (c0 := 3) rfl rfl ok_X4_allGrief ⟨Nat.le_of_ble_eq_true rfl, Nat.le_of_ble_eq_true rfl⟩ hv_X4_365 dX4_mountains_38 (s_X4_allGrief a0 w6) rfl rfl (Nat.le_of_ble_eq_true rfl) (fun x8 w7 => ?_)
      refine e_istore (L' := [some (.ref a0), some (.int a1), some (.int a2), some (.int a3), some (.int (0 : Int32)), some (.int x8), none, none]) (pc := 41) dX4_mountains_41 (by decide) rfl ?_
      refine e_aload_n (pc := 43) dX4_mountains_43 rfl rfl ?_
      refine e_callV (pc := 44) (av := []) (S := []) (c0 := 3) rfl rfl ok_X4_think ⟨Nat.le_of_ble_eq_true rfl, Nat.le_of_ble_eq_true rfl⟩ hv_X4_221 dX4_mountains_44 (s_X4_think a0 w7) rfl rfl (Nat.le_of_ble_eq_true rfl) (fun _ w9 => ?_)
      refine e_iconst (pc := 47) dX4_mountains_47 kc_0 ?_
      refine e_istore (L' := [some (.ref a0), some (.int a1), some (.int a2), some (.int a3), some (.int (0 : Int32)), some (.int x8), some (.int (0 : Int32)), none]) (pc := 48) dX4_mountains_48 (by decide) rfl ?_
      refine e_forget (L2 := [some (.ref a0), some (.int a1), none, some (.int a3), some (.int (0 : Int32)), some (.int x8), some (.int (0 : Int32)), none]) (And.intro rfl (And.intro rfl (And.intro rfl (And.intro rfl (And.intro rfl (And.intro rfl trivial)))))) ?_
      exact e_loop4 (L := fun b4 b5 b6 => [some (.ref a0), some (.int a1), none, some (.int a3), some (.int b4), some (.int b5), some (.int b6), none]) (S := fun b4 b5 b6 => []) (fun kf hkf => t_X4_mountains_50 a0 a1 a2 a3  kf hkf) _ (0 : Int32) x8 (0 : Int32) w9
    · refine e_iconst (pc := 27) dX4_mountains_27 kc_m1 ?_
      exact e_iret (pc := 28) dX4_mountains_28 rfl rfl
def M_X4_count : aM := (yX4_count, cX4_count, 2, (some .int), 1, 22)
theorem ok_X4_count : a_okM M_X4_count 1 := ⟨⟨by decide +kernel, by decide +kernel⟩, by decide +kernel, a_in 1404 (by decide +kernel) rfl, a_in 79 (by decide +kernel) rfl⟩
theorem dX4_count_0 : decode M_X4_count.2.1 0 = .ok (.aload_n 0, 1) := by decide +kernel
theorem dX4_count_1 : decode M_X4_count.2.1 1 = .ok (.iconst 0, 1) := by decide +kernel
theorem dX4_count_2 : decode M_X4_count.2.1 2 = .ok (.putfield 80, 3) := by decide +kernel
theorem dX4_count_5 : decode M_X4_count.2.1 5 = .ok (.iload_n 1, 1) := by decide +kernel
theorem dX4_count_6 : decode M_X4_count.2.1 6 = .ok (.tableswitch 59 0 4 #[34, 39, 44, 49, 54], 34) := by decide +kernel
theorem dX4_count_40 : decode M_X4_count.2.1 40 = .ok (.aload_n 0, 1) := by decide +kernel
theorem dX4_count_41 : decode M_X4_count.2.1 41 = .ok (.getfield 92, 3) := by decide +kernel
theorem dX4_count_44 : decode M_X4_count.2.1 44 = .ok (.ireturn, 1) := by decide +kernel
theorem dX4_count_45 : decode M_X4_count.2.1 45 = .ok (.aload_n 0, 1) := by decide +kernel
theorem dX4_count_46 : decode M_X4_count.2.1 46 = .ok (.getfield 124, 3) := by decide +kernel
theorem dX4_count_49 : decode M_X4_count.2.1 49 = .ok (.ireturn, 1) := by decide +kernel
theorem dX4_count_50 : decode M_X4_count.2.1 50 = .ok (.aload_n 0, 1) := by decide +kernel
theorem dX4_count_51 : decode M_X4_count.2.1 51 = .ok (.getfield 107, 3) := by decide +kernel
theorem dX4_count_54 : decode M_X4_count.2.1 54 = .ok (.ireturn, 1) := by decide +kernel
theorem dX4_count_55 : decode M_X4_count.2.1 55 = .ok (.aload_n 0, 1) := by decide +kernel
theorem dX4_count_56 : decode M_X4_count.2.1 56 = .ok (.invokevirtual 288, 3) := by decide +kernel
theorem dX4_count_59 : decode M_X4_count.2.1 59 = .ok (.ireturn, 1) := by decide +kernel
theorem dX4_count_60 : decode M_X4_count.2.1 60 = .ok (.aload_n 0, 1) := by decide +kernel
theorem dX4_count_61 : decode M_X4_count.2.1 61 = .ok (.invokevirtual 356, 3) := by decide +kernel
theorem dX4_count_64 : decode M_X4_count.2.1 64 = .ok (.ireturn, 1) := by decide +kernel
theorem dX4_count_65 : decode M_X4_count.2.1 65 = .ok (.iconst (-1), 1) := by decide +kernel
theorem dX4_count_66 : decode M_X4_count.2.1 66 = .ok (.ireturn, 1) := by decide +kernel
def f_X4_count (a0 : Nat) (a1 : Int32) (w : aW) : Option (Int32 × aW) :=
  (sF 3 w a0 19 (.int (0 : Int32))).bind fun w1 =>
  if a1 = (0 : Int32) then
    (gI 3 w1 a0 0).bind fun x3 =>
    some (x3, w1)
  else
    if a1 = (1 : Int32) then
      (gI 3 w1 a0 11).bind fun x5 =>
      some (x5, w1)
    else
      if a1 = (2 : Int32) then
        (gI 3 w1 a0 6).bind fun x7 =>
        some (x7, w1)
      else
        if a1 = (3 : Int32) then
          cV 3 w1 a0 (bk (f_X4_calledAll a0 w1) fun x10 w9 =>
          some (x10, w9))
        else
          if a1 = (4 : Int32) then
            cV 3 w1 a0 (bk (f_X4_allMeans a0 w1) fun x13 w12 =>
            some (x13, w12))
          else
            some ((-1 : Int32), w1)
theorem s_X4_count (a0 : Nat) (a1 : Int32) (w : aW) : Sp rvI M_X4_count [.ref a0, .int a1] w (f_X4_count a0 a1 w) := by
  refine e_entry [some (.ref a0), some (.int a1)] (by decide +kernel) (Nat.le_of_ble_eq_true rfl) (fun _ => rfl) ?_
  unfold f_X4_count
  refine e_aload_n (pc := 0) dX4_count_0 rfl rfl ?_
  refine e_iconst (pc := 1) dX4_count_1 kc_0 ?_
  refine e_put (pc := 2) dX4_count_2 hw_X4_80 (fun _ => rfl) (fun _ => rfl) (fun w1 => ?_)
  refine e_iload_n (pc := 5) dX4_count_5 rfl rfl ?_
  refine e_ite (fun h2 => ?_) (fun h2 => ?_)
  · refine e_tabIn (pc := 6) (v := 0) (j := 0) (tgt := 40) dX4_count_6 h2 rfl (by decide) (by decide) rfl (by decide) ?_
    refine e_aload_n (pc := 40) dX4_count_40 rfl rfl ?_
    refine e_getI (pc := 41) dX4_count_41 hs_X4_92 (fun x3 => ?_)
    exact e_iret (pc := 44) dX4_count_44 rfl rfl
  · refine e_ite (fun h4 => ?_) (fun h4 => ?_)
    · refine e_tabIn (pc := 6) (v := 1) (j := 1) (tgt := 45) dX4_count_6 h4 rfl (by decide) (by decide) rfl (by decide) ?_
      refine e_aload_n (pc := 45) dX4_count_45 rfl rfl ?_
      refine e_getI (pc := 46) dX4_count_46 hs_X4_124 (fun x5 => ?_)
      exact e_iret (pc := 49) dX4_count_49 rfl rfl
    · refine e_ite (fun h6 => ?_) (fun h6 => ?_)
      · refine e_tabIn (pc := 6) (v := 2) (j := 2) (tgt := 50) dX4_count_6 h6 rfl (by decide) (by decide) rfl (by decide) ?_
        refine e_aload_n (pc := 50) dX4_count_50 rfl rfl ?_
        refine e_getI (pc := 51) dX4_count_51 hs_X4_107 (fun x7 => ?_)
        exact e_iret (pc := 54) dX4_count_54 rfl rfl
      · refine e_ite (fun h8 => ?_) (fun h8 => ?_)
        · refine e_tabIn (pc := 6) (v := 3) (j := 3) (tgt := 55) dX4_count_6 h8 rfl (by decide) (by decide) rfl (by decide) ?_
          refine e_aload_n (pc := 55) dX4_count_55 rfl rfl ?_
          refine e_callV (pc := 56) (av := []) (S := []) (c0 := 3) rfl rfl ok_X4_calledAll ⟨Nat.le_of_ble_eq_true rfl, Nat.le_of_ble_eq_true rfl⟩ hv_X4_288 dX4_count_56 (s_X4_calledAll a0 w1) rfl rfl (Nat.le_of_ble_eq_true rfl) (fun x10 w9 => ?_)
          exact e_iret (pc := 59) dX4_count_59 rfl rfl
        · refine e_ite (fun h11 => ?_) (fun h11 => ?_)
          · refine e_tabIn (pc := 6) (v := 4) (j := 4) (tgt := 60) dX4_count_6 h11 rfl (by decide) (by decide) rfl (by decide) ?_
            refine e_aload_n (pc := 60) dX4_count_60 rfl rfl ?_
            refine e_callV (pc := 61) (av := []) (S := []) (c0 := 3) rfl rfl ok_X4_allMeans ⟨Nat.le_of_ble_eq_true rfl, Nat.le_of_ble_eq_true rfl⟩ hv_X4_356 dX4_count_61 (s_X4_allMeans a0 w1) rfl rfl (Nat.le_of_ble_eq_true rfl) (fun x13 w12 => ?_)
            exact e_iret (pc := 64) dX4_count_64 rfl rfl
          · refine e_tabOut (pc := 6) (tgt := 65) dX4_count_6 (by have z0 := lv_neT h2 (show (0 : Int32).toInt = 0 from rfl); have z1 := lv_neT h4 (show (1 : Int32).toInt = 1 from rfl); have z2 := lv_neT h6 (show (2 : Int32).toInt = 2 from rfl); have z3 := lv_neT h8 (show (3 : Int32).toInt = 3 from rfl); have z4 := lv_neT h11 (show (4 : Int32).toInt = 4 from rfl); omega) (by decide) ?_
            refine e_iconst (pc := 65) dX4_count_65 kc_m1 ?_
            exact e_iret (pc := 66) dX4_count_66 rfl rfl
def M_X4_keep : aM := (yX4_keep, cX4_keep, 5, (some .int), 1, 25)
theorem ok_X4_keep : a_okM M_X4_keep 4 := ⟨⟨by decide +kernel, by decide +kernel⟩, by decide +kernel, a_in 1408 (by decide +kernel) rfl, a_in 79 (by decide +kernel) rfl⟩
theorem dX4_keep_0 : decode M_X4_keep.2.1 0 = .ok (.aload_n 0, 1) := by decide +kernel
theorem dX4_keep_1 : decode M_X4_keep.2.1 1 = .ok (.iconst 0, 1) := by decide +kernel
theorem dX4_keep_2 : decode M_X4_keep.2.1 2 = .ok (.putfield 80, 3) := by decide +kernel
theorem dX4_keep_5 : decode M_X4_keep.2.1 5 = .ok (.iload_n 1, 1) := by decide +kernel
theorem dX4_keep_6 : decode M_X4_keep.2.1 6 = .ok (.i2l, 1) := by decide +kernel
theorem dX4_keep_7 : decode M_X4_keep.2.1 7 = .ok (.lconst 0, 1) := by decide +kernel
theorem dX4_keep_8 : decode M_X4_keep.2.1 8 = .ok (.ldc2_w 262, 3) := by decide +kernel
theorem dX4_keep_11 : decode M_X4_keep.2.1 11 = .ok (.invokestatic 86, 3) := by decide +kernel
theorem dX4_keep_14 : decode M_X4_keep.2.1 14 = .ok (.ifCond .eq 43, 3) := by decide +kernel
theorem dX4_keep_17 : decode M_X4_keep.2.1 17 = .ok (.iload_n 2, 1) := by decide +kernel
theorem dX4_keep_18 : decode M_X4_keep.2.1 18 = .ok (.i2l, 1) := by decide +kernel
theorem dX4_keep_19 : decode M_X4_keep.2.1 19 = .ok (.lconst 0, 1) := by decide +kernel
theorem dX4_keep_20 : decode M_X4_keep.2.1 20 = .ok (.lconst 1, 1) := by decide +kernel
theorem dX4_keep_21 : decode M_X4_keep.2.1 21 = .ok (.invokestatic 86, 3) := by decide +kernel
theorem dX4_keep_24 : decode M_X4_keep.2.1 24 = .ok (.ifCond .eq 33, 3) := by decide +kernel
theorem dX4_keep_27 : decode M_X4_keep.2.1 27 = .ok (.iload_n 2, 1) := by decide +kernel
theorem dX4_keep_28 : decode M_X4_keep.2.1 28 = .ok (.iconst 1, 1) := by decide +kernel
theorem dX4_keep_29 : decode M_X4_keep.2.1 29 = .ok (.if_icmp .ne 30, 3) := by decide +kernel
theorem dX4_keep_32 : decode M_X4_keep.2.1 32 = .ok (.iload_n 3, 1) := by decide +kernel
theorem dX4_keep_33 : decode M_X4_keep.2.1 33 = .ok (.i2l, 1) := by decide +kernel
theorem dX4_keep_34 : decode M_X4_keep.2.1 34 = .ok (.lconst 0, 1) := by decide +kernel
theorem dX4_keep_35 : decode M_X4_keep.2.1 35 = .ok (.ldc2_w 262, 3) := by decide +kernel
theorem dX4_keep_38 : decode M_X4_keep.2.1 38 = .ok (.invokestatic 86, 3) := by decide +kernel
theorem dX4_keep_41 : decode M_X4_keep.2.1 41 = .ok (.ifCond .eq 16, 3) := by decide +kernel
theorem dX4_keep_44 : decode M_X4_keep.2.1 44 = .ok (.iload 4, 2) := by decide +kernel
theorem dX4_keep_46 : decode M_X4_keep.2.1 46 = .ok (.i2l, 1) := by decide +kernel
theorem dX4_keep_47 : decode M_X4_keep.2.1 47 = .ok (.lconst 0, 1) := by decide +kernel
theorem dX4_keep_48 : decode M_X4_keep.2.1 48 = .ok (.ldc2_w 371, 3) := by decide +kernel
theorem dX4_keep_51 : decode M_X4_keep.2.1 51 = .ok (.invokestatic 86, 3) := by decide +kernel
theorem dX4_keep_54 : decode M_X4_keep.2.1 54 = .ok (.ifCond .ne 5, 3) := by decide +kernel
theorem dX4_keep_57 : decode M_X4_keep.2.1 57 = .ok (.iconst (-1), 1) := by decide +kernel
theorem dX4_keep_58 : decode M_X4_keep.2.1 58 = .ok (.ireturn, 1) := by decide +kernel
theorem dX4_keep_59 : decode M_X4_keep.2.1 59 = .ok (.aload_n 0, 1) := by decide +kernel
theorem dX4_keep_60 : decode M_X4_keep.2.1 60 = .ok (.getfield 37, 3) := by decide +kernel
theorem dX4_keep_63 : decode M_X4_keep.2.1 63 = .ok (.iload_n 1, 1) := by decide +kernel
theorem dX4_keep_64 : decode M_X4_keep.2.1 64 = .ok (.iload_n 2, 1) := by decide +kernel
theorem dX4_keep_65 : decode M_X4_keep.2.1 65 = .ok (.iastore, 1) := by decide +kernel
theorem dX4_keep_66 : decode M_X4_keep.2.1 66 = .ok (.aload_n 0, 1) := by decide +kernel
theorem dX4_keep_67 : decode M_X4_keep.2.1 67 = .ok (.getfield 40, 3) := by decide +kernel
theorem dX4_keep_70 : decode M_X4_keep.2.1 70 = .ok (.iload_n 1, 1) := by decide +kernel
theorem dX4_keep_71 : decode M_X4_keep.2.1 71 = .ok (.iload_n 2, 1) := by decide +kernel
theorem dX4_keep_72 : decode M_X4_keep.2.1 72 = .ok (.iconst 1, 1) := by decide +kernel
theorem dX4_keep_73 : decode M_X4_keep.2.1 73 = .ok (.if_icmp .ne 7, 3) := by decide +kernel
theorem dX4_keep_76 : decode M_X4_keep.2.1 76 = .ok (.iload_n 3, 1) := by decide +kernel
theorem dX4_keep_77 : decode M_X4_keep.2.1 77 = .ok (.goto 4, 3) := by decide +kernel
theorem dX4_keep_80 : decode M_X4_keep.2.1 80 = .ok (.iconst 0, 1) := by decide +kernel
theorem dX4_keep_81 : decode M_X4_keep.2.1 81 = .ok (.iastore, 1) := by decide +kernel
theorem dX4_keep_82 : decode M_X4_keep.2.1 82 = .ok (.aload_n 0, 1) := by decide +kernel
theorem dX4_keep_83 : decode M_X4_keep.2.1 83 = .ok (.getfield 43, 3) := by decide +kernel
theorem dX4_keep_86 : decode M_X4_keep.2.1 86 = .ok (.iload_n 1, 1) := by decide +kernel
theorem dX4_keep_87 : decode M_X4_keep.2.1 87 = .ok (.iload_n 2, 1) := by decide +kernel
theorem dX4_keep_88 : decode M_X4_keep.2.1 88 = .ok (.iconst 1, 1) := by decide +kernel
theorem dX4_keep_89 : decode M_X4_keep.2.1 89 = .ok (.if_icmp .ne 8, 3) := by decide +kernel
theorem dX4_keep_92 : decode M_X4_keep.2.1 92 = .ok (.iload 4, 2) := by decide +kernel
theorem dX4_keep_94 : decode M_X4_keep.2.1 94 = .ok (.goto 4, 3) := by decide +kernel
theorem dX4_keep_97 : decode M_X4_keep.2.1 97 = .ok (.iconst 0, 1) := by decide +kernel
theorem dX4_keep_98 : decode M_X4_keep.2.1 98 = .ok (.iastore, 1) := by decide +kernel
theorem dX4_keep_99 : decode M_X4_keep.2.1 99 = .ok (.iconst 0, 1) := by decide +kernel
theorem dX4_keep_100 : decode M_X4_keep.2.1 100 = .ok (.ireturn, 1) := by decide +kernel
def c_X4_keep_81 (a0 : Nat) (a1 : Int32) (a2 : Int32) (a3 : Int32) (a4 : Int32) (s0 : Int32) (s1 : Int32) (s2 : Nat) (w : aW) : Option (Int32 × aW) :=
  (sA w s2 s1 s0).bind fun w13 =>
  (gR 3 w13 a0 15).bind fun r14 =>
  if ¬ a2 = (1 : Int32) then
    (sA w13 r14 a1 (0 : Int32)).bind fun w15 =>
    some ((0 : Int32), w15)
  else
    (sA w13 r14 a1 a4).bind fun w16 =>
    some ((0 : Int32), w16)
theorem t_X4_keep_81 (a0 : Nat) (a1 : Int32) (a2 : Int32) (a3 : Int32) (a4 : Int32) (s0 : Int32) (s1 : Int32) (s2 : Nat) (w : aW) : Ev rvI M_X4_keep 81 [some (.ref a0), some (.int a1), some (.int a2), none, some (.int a4)] [.int s0, .int s1, .ref s2] w (c_X4_keep_81 a0 a1 a2 a3 a4 s0 s1 s2 w) := by
  unfold c_X4_keep_81
  refine e_iast (pc := 81) dX4_keep_81 (fun w13 => ?_)
  refine e_aload_n (pc := 82) dX4_keep_82 rfl rfl ?_
  refine e_getR (pc := 83) dX4_keep_83 hs_X4_43 (fun r14 => ?_)
  refine e_iload_n (pc := 86) dX4_keep_86 rfl rfl ?_
  refine e_iload_n (pc := 87) dX4_keep_87 rfl rfl ?_
  refine e_iconst (pc := 88) dX4_keep_88 kc_1 ?_
  refine e_icmp_ne (pc := 89) (tgt := 97) dX4_keep_89 (by decide) (fun _ => ?_) (fun _ => ?_)
  · refine e_iconst (pc := 97) dX4_keep_97 kc_0 ?_
    refine e_iast (pc := 98) dX4_keep_98 (fun w15 => ?_)
    refine e_iconst (pc := 99) dX4_keep_99 kc_0 ?_
    exact e_iret (pc := 100) dX4_keep_100 rfl rfl
  · refine e_iload (pc := 92) dX4_keep_92 rfl ?_
    refine e_goto (pc := 94) (tgt := 98) dX4_keep_94 (by decide) ?_
    refine e_iast (pc := 98) dX4_keep_98 (fun w16 => ?_)
    refine e_iconst (pc := 99) dX4_keep_99 kc_0 ?_
    exact e_iret (pc := 100) dX4_keep_100 rfl rfl
def c_X4_keep_59 (a0 : Nat) (a1 : Int32) (a2 : Int32) (a3 : Int32) (a4 : Int32) (w : aW) : Option (Int32 × aW) :=
  (gR 3 w a0 13).bind fun r10 =>
  (sA w r10 a1 a2).bind fun w11 =>
  (gR 3 w11 a0 14).bind fun r12 =>
  if ¬ a2 = (1 : Int32) then
    c_X4_keep_81 a0 a1 a2 a3 a4 (0 : Int32) a1 r12 w11
  else
    c_X4_keep_81 a0 a1 a2 a3 a4 a3 a1 r12 w11
theorem t_X4_keep_59 (a0 : Nat) (a1 : Int32) (a2 : Int32) (a3 : Int32) (a4 : Int32) (w : aW) : Ev rvI M_X4_keep 59 [some (.ref a0), some (.int a1), some (.int a2), some (.int a3), some (.int a4)] [] w (c_X4_keep_59 a0 a1 a2 a3 a4 w) := by
  unfold c_X4_keep_59
  refine e_aload_n (pc := 59) dX4_keep_59 rfl rfl ?_
  refine e_getR (pc := 60) dX4_keep_60 hs_X4_37 (fun r10 => ?_)
  refine e_iload_n (pc := 63) dX4_keep_63 rfl rfl ?_
  refine e_iload_n (pc := 64) dX4_keep_64 rfl rfl ?_
  refine e_iast (pc := 65) dX4_keep_65 (fun w11 => ?_)
  refine e_aload_n (pc := 66) dX4_keep_66 rfl rfl ?_
  refine e_getR (pc := 67) dX4_keep_67 hs_X4_40 (fun r12 => ?_)
  refine e_iload_n (pc := 70) dX4_keep_70 rfl rfl ?_
  refine e_iload_n (pc := 71) dX4_keep_71 rfl rfl ?_
  refine e_iconst (pc := 72) dX4_keep_72 kc_1 ?_
  refine e_icmp_ne (pc := 73) (tgt := 80) dX4_keep_73 (by decide) (fun _ => ?_) (fun _ => ?_)
  · refine e_iconst (pc := 80) dX4_keep_80 kc_0 ?_
    refine e_forget (L2 := [some (.ref a0), some (.int a1), some (.int a2), none, some (.int a4)]) (And.intro rfl (And.intro rfl (And.intro rfl (And.intro rfl trivial)))) ?_
    exact t_X4_keep_81 a0 a1 a2 a3 a4 (0 : Int32) a1 r12 w11
  · refine e_iload_n (pc := 76) dX4_keep_76 rfl rfl ?_
    refine e_goto (pc := 77) (tgt := 81) dX4_keep_77 (by decide) ?_
    refine e_forget (L2 := [some (.ref a0), some (.int a1), some (.int a2), none, some (.int a4)]) (And.intro rfl (And.intro rfl (And.intro rfl (And.intro rfl trivial)))) ?_
    exact t_X4_keep_81 a0 a1 a2 a3 a4 a3 a1 r12 w11
def f_X4_keep (a0 : Nat) (a1 : Int32) (a2 : Int32) (a3 : Int32) (a4 : Int32) (w : aW) : Option (Int32 × aW) :=
  (sF 3 w a0 19 (.int (0 : Int32))).bind fun w1 =>
  bk (f_X4_in a1.toInt64 (0 : Int64) (7 : Int64) w1) fun x3 w2 =>
  if x3 = (0 : Int32) then
    some ((-1 : Int32), w2)
  else
    bk (f_X4_in a2.toInt64 (0 : Int64) (1 : Int64) w2) fun x5 w4 =>
    if x5 = (0 : Int32) then
      some ((-1 : Int32), w4)
    else
      if ¬ a2 = (1 : Int32) then
        c_X4_keep_59 a0 a1 a2 a3 a4 w4
      else
        bk (f_X4_in a3.toInt64 (0 : Int64) (7 : Int64) w4) fun x7 w6 =>
        if x7 = (0 : Int32) then
          some ((-1 : Int32), w6)
        else
          bk (f_X4_in a4.toInt64 (0 : Int64) (9 : Int64) w6) fun x9 w8 =>
          if ¬ x9 = (0 : Int32) then
            c_X4_keep_59 a0 a1 a2 a3 a4 w8
          else
            some ((-1 : Int32), w8)
theorem s_X4_keep (a0 : Nat) (a1 : Int32) (a2 : Int32) (a3 : Int32) (a4 : Int32) (w : aW) : Sp rvI M_X4_keep [.ref a0, .int a1, .int a2, .int a3, .int a4] w (f_X4_keep a0 a1 a2 a3 a4 w) := by
  refine e_entry [some (.ref a0), some (.int a1), some (.int a2), some (.int a3), some (.int a4)] (by decide +kernel) (Nat.le_of_ble_eq_true rfl) (fun _ => rfl) ?_
  unfold f_X4_keep
  refine e_aload_n (pc := 0) dX4_keep_0 rfl rfl ?_
  refine e_iconst (pc := 1) dX4_keep_1 kc_0 ?_
  refine e_put (pc := 2) dX4_keep_2 hw_X4_80 (fun _ => rfl) (fun _ => rfl) (fun w1 => ?_)
  refine e_iload_n (pc := 5) dX4_keep_5 rfl rfl ?_
  refine e_i2l (pc := 6) dX4_keep_6 ?_
  refine e_lconst (pc := 7) (v := 0) dX4_keep_7 (by decide) ?_
  refine e_ldc2 (pc := 8) (v := 7) dX4_keep_8 (a_in 990 (by decide +kernel) rfl) ?_
  refine e_callS (pc := 11) (av := [.long a1.toInt64, .long (0 : Int64), .long (7 : Int64)]) (S := []) ok_X4_in ⟨Nat.le_of_ble_eq_true rfl, Nat.le_of_ble_eq_true rfl⟩ ht_X4_86 dX4_keep_11 (s_X4_in a1.toInt64 (0 : Int64) (7 : Int64) w1) rfl rfl (Nat.le_of_ble_eq_true rfl) (fun x3 w2 => ?_)
  refine e_if_eq (pc := 14) (tgt := 57) dX4_keep_14 (by decide) (fun _ => ?_) (fun _ => ?_)
  · refine e_iconst (pc := 57) dX4_keep_57 kc_m1 ?_
    exact e_iret (pc := 58) dX4_keep_58 rfl rfl
  · refine e_iload_n (pc := 17) dX4_keep_17 rfl rfl ?_
    refine e_i2l (pc := 18) dX4_keep_18 ?_
    refine e_lconst (pc := 19) (v := 0) dX4_keep_19 (by decide) ?_
    refine e_lconst (pc := 20) (v := 1) dX4_keep_20 (by decide) ?_
    refine e_callS (pc := 21) (av := [.long a2.toInt64, .long (0 : Int64), .long (1 : Int64)]) (S := []) ok_X4_in ⟨Nat.le_of_ble_eq_true rfl, Nat.le_of_ble_eq_true rfl⟩ ht_X4_86 dX4_keep_21 (s_X4_in a2.toInt64 (0 : Int64) (1 : Int64) w2) rfl rfl (Nat.le_of_ble_eq_true rfl) (fun x5 w4 => ?_)
    refine e_if_eq (pc := 24) (tgt := 57) dX4_keep_24 (by decide) (fun _ => ?_) (fun _ => ?_)
    · refine e_iconst (pc := 57) dX4_keep_57 kc_m1 ?_
      exact e_iret (pc := 58) dX4_keep_58 rfl rfl
    · refine e_iload_n (pc := 27) dX4_keep_27 rfl rfl ?_
      refine e_iconst (pc := 28) dX4_keep_28 kc_1 ?_
      refine e_icmp_ne (pc := 29) (tgt := 59) dX4_keep_29 (by decide) (fun _ => ?_) (fun _ => ?_)
      · exact t_X4_keep_59 a0 a1 a2 a3 a4 w4
      · refine e_iload_n (pc := 32) dX4_keep_32 rfl rfl ?_
        refine e_i2l (pc := 33) dX4_keep_33 ?_
        refine e_lconst (pc := 34) (v := 0) dX4_keep_34 (by decide) ?_
        refine e_ldc2 (pc := 35) (v := 7) dX4_keep_35 (a_in 990 (by decide +kernel) rfl) ?_
        refine e_callS (pc := 38) (av := [.long a3.toInt64, .long (0 : Int64), .long (7 : Int64)]) (S := []) ok_X4_in ⟨Nat.le_of_ble_eq_true rfl, Nat.le_of_ble_eq_true rfl⟩ ht_X4_86 dX4_keep_38 (s_X4_in a3.toInt64 (0 : Int64) (7 : Int64) w4) rfl rfl (Nat.le_of_ble_eq_true rfl) (fun x7 w6 => ?_)
        refine e_if_eq (pc := 41) (tgt := 57) dX4_keep_41 (by decide) (fun _ => ?_) (fun _ => ?_)
        · refine e_iconst (pc := 57) dX4_keep_57 kc_m1 ?_
          exact e_iret (pc := 58) dX4_keep_58 rfl rfl
        · refine e_iload (pc := 44) dX4_keep_44 rfl ?_
          refine e_i2l (pc := 46) dX4_keep_46 ?_
          refine e_lconst (pc := 47) (v := 0) dX4_keep_47 (by decide) ?_
          refine e_ldc2 (pc := 48) (v := 9) dX4_keep_48 (a_in 1409 (by decide +kernel) rfl) ?_
          refine e_callS (pc := 51) (av := [.long a4.toInt64, .long (0 : Int64), .long (9 : Int64)]) (S := []) ok_X4_in ⟨Nat.le_of_ble_eq_true rfl, Nat.le_of_ble_eq_true rfl⟩ ht_X4_86 dX4_keep_51 (s_X4_in a4.toInt64 (0 : Int64) (9 : Int64) w6) rfl rfl (Nat.le_of_ble_eq_true rfl) (fun x9 w8 => ?_)
          refine e_if_ne (pc := 54) (tgt := 59) dX4_keep_54 (by decide) (fun _ => ?_) (fun _ => ?_)
          · exact t_X4_keep_59 a0 a1 a2 a3 a4 w8
          · refine e_iconst (pc := 57) dX4_keep_57 kc_m1 ?_
            exact e_iret (pc := 58) dX4_keep_58 rfl rfl
def M_X4_narrowed : aM := (yX4_narrowed, cX4_narrowed, 2, (some .long), 0, 0)
theorem ok_X4_narrowed : a_okM M_X4_narrowed 2 := ⟨⟨by decide +kernel, by decide +kernel⟩, by decide +kernel, a_in 1420 (by decide +kernel) rfl, a_in 79 (by decide +kernel) rfl⟩
theorem dX4_narrowed_0 : decode M_X4_narrowed.2.1 0 = .ok (.iload_n 1, 1) := by decide +kernel
theorem dX4_narrowed_1 : decode M_X4_narrowed.2.1 1 = .ok (.ifCond .ne 9, 3) := by decide +kernel
theorem dX4_narrowed_4 : decode M_X4_narrowed.2.1 4 = .ok (.iload_n 0, 1) := by decide +kernel
theorem dX4_narrowed_5 : decode M_X4_narrowed.2.1 5 = .ok (.i2b, 1) := by decide +kernel
theorem dX4_narrowed_6 : decode M_X4_narrowed.2.1 6 = .ok (.i2l, 1) := by decide +kernel
theorem dX4_narrowed_7 : decode M_X4_narrowed.2.1 7 = .ok (.goto 16, 3) := by decide +kernel
theorem dX4_narrowed_10 : decode M_X4_narrowed.2.1 10 = .ok (.iload_n 1, 1) := by decide +kernel
theorem dX4_narrowed_11 : decode M_X4_narrowed.2.1 11 = .ok (.iconst 1, 1) := by decide +kernel
theorem dX4_narrowed_12 : decode M_X4_narrowed.2.1 12 = .ok (.if_icmp .ne 9, 3) := by decide +kernel
theorem dX4_narrowed_15 : decode M_X4_narrowed.2.1 15 = .ok (.iload_n 0, 1) := by decide +kernel
theorem dX4_narrowed_16 : decode M_X4_narrowed.2.1 16 = .ok (.i2s, 1) := by decide +kernel
theorem dX4_narrowed_17 : decode M_X4_narrowed.2.1 17 = .ok (.i2l, 1) := by decide +kernel
theorem dX4_narrowed_18 : decode M_X4_narrowed.2.1 18 = .ok (.goto 5, 3) := by decide +kernel
theorem dX4_narrowed_21 : decode M_X4_narrowed.2.1 21 = .ok (.iload_n 0, 1) := by decide +kernel
theorem dX4_narrowed_22 : decode M_X4_narrowed.2.1 22 = .ok (.i2l, 1) := by decide +kernel
theorem dX4_narrowed_23 : decode M_X4_narrowed.2.1 23 = .ok (.lreturn, 1) := by decide +kernel
def f_X4_narrowed (a0 : Int32) (a1 : Int32) (w : aW) : Option (Int64 × aW) :=
  if ¬ a1 = (0 : Int32) then
    if ¬ a1 = (1 : Int32) then
      some (a0.toInt64, w)
    else
      some (a0.toInt16.toInt32.toInt64, w)
  else
    some (a0.toInt8.toInt32.toInt64, w)
theorem s_X4_narrowed (a0 : Int32) (a1 : Int32) (w : aW) : Sp rvL M_X4_narrowed [.int a0, .int a1] w (f_X4_narrowed a0 a1 w) := by
  refine e_entry [some (.int a0), some (.int a1)] (by decide +kernel) (Nat.le_of_ble_eq_true rfl) (fun _ => rfl) ?_
  unfold f_X4_narrowed
  refine e_iload_n (pc := 0) dX4_narrowed_0 rfl rfl ?_
  refine e_if_ne (pc := 1) (tgt := 10) dX4_narrowed_1 (by decide) (fun _ => ?_) (fun _ => ?_)
  · refine e_iload_n (pc := 10) dX4_narrowed_10 rfl rfl ?_
    refine e_iconst (pc := 11) dX4_narrowed_11 kc_1 ?_
    refine e_icmp_ne (pc := 12) (tgt := 21) dX4_narrowed_12 (by decide) (fun _ => ?_) (fun _ => ?_)
    · refine e_iload_n (pc := 21) dX4_narrowed_21 rfl rfl ?_
      refine e_i2l (pc := 22) dX4_narrowed_22 ?_
      exact e_lret (pc := 23) dX4_narrowed_23 rfl
    · refine e_iload_n (pc := 15) dX4_narrowed_15 rfl rfl ?_
      refine e_i2s (pc := 16) dX4_narrowed_16 ?_
      refine e_i2l (pc := 17) dX4_narrowed_17 ?_
      refine e_goto (pc := 18) (tgt := 23) dX4_narrowed_18 (by decide) ?_
      exact e_lret (pc := 23) dX4_narrowed_23 rfl
  · refine e_iload_n (pc := 4) dX4_narrowed_4 rfl rfl ?_
    refine e_i2b (pc := 5) dX4_narrowed_5 ?_
    refine e_i2l (pc := 6) dX4_narrowed_6 ?_
    refine e_goto (pc := 7) (tgt := 23) dX4_narrowed_7 (by decide) ?_
    exact e_lret (pc := 23) dX4_narrowed_23 rfl
def M_X4_row : aM := (yX4_row, cX4_row, 5, (some .int), 1, 25)
theorem ok_X4_row : a_okM M_X4_row 3 := ⟨⟨by decide +kernel, by decide +kernel⟩, by decide +kernel, a_in 1413 (by decide +kernel) rfl, a_in 79 (by decide +kernel) rfl⟩
theorem dX4_row_0 : decode M_X4_row.2.1 0 = .ok (.aload_n 0, 1) := by decide +kernel
theorem dX4_row_1 : decode M_X4_row.2.1 1 = .ok (.iconst 0, 1) := by decide +kernel
theorem dX4_row_2 : decode M_X4_row.2.1 2 = .ok (.putfield 80, 3) := by decide +kernel
theorem dX4_row_5 : decode M_X4_row.2.1 5 = .ok (.iload_n 1, 1) := by decide +kernel
theorem dX4_row_6 : decode M_X4_row.2.1 6 = .ok (.i2l, 1) := by decide +kernel
theorem dX4_row_7 : decode M_X4_row.2.1 7 = .ok (.lconst 0, 1) := by decide +kernel
theorem dX4_row_8 : decode M_X4_row.2.1 8 = .ok (.ldc2_w 262, 3) := by decide +kernel
theorem dX4_row_11 : decode M_X4_row.2.1 11 = .ok (.invokestatic 86, 3) := by decide +kernel
theorem dX4_row_14 : decode M_X4_row.2.1 14 = .ok (.ifCond .eq 21, 3) := by decide +kernel
theorem dX4_row_17 : decode M_X4_row.2.1 17 = .ok (.iload_n 2, 1) := by decide +kernel
theorem dX4_row_18 : decode M_X4_row.2.1 18 = .ok (.i2l, 1) := by decide +kernel
theorem dX4_row_19 : decode M_X4_row.2.1 19 = .ok (.lconst 0, 1) := by decide +kernel
theorem dX4_row_20 : decode M_X4_row.2.1 20 = .ok (.ldc2_w 274, 3) := by decide +kernel
theorem dX4_row_23 : decode M_X4_row.2.1 23 = .ok (.invokestatic 86, 3) := by decide +kernel
theorem dX4_row_26 : decode M_X4_row.2.1 26 = .ok (.ifCond .eq 9, 3) := by decide +kernel
theorem dX4_row_29 : decode M_X4_row.2.1 29 = .ok (.iload_n 3, 1) := by decide +kernel
theorem dX4_row_30 : decode M_X4_row.2.1 30 = .ok (.bipush 100, 2) := by decide +kernel
theorem dX4_row_32 : decode M_X4_row.2.1 32 = .ok (.if_icmp .le 5, 3) := by decide +kernel
theorem dX4_row_35 : decode M_X4_row.2.1 35 = .ok (.iconst (-1), 1) := by decide +kernel
theorem dX4_row_36 : decode M_X4_row.2.1 36 = .ok (.ireturn, 1) := by decide +kernel
theorem dX4_row_37 : decode M_X4_row.2.1 37 = .ok (.iload_n 3, 1) := by decide +kernel
theorem dX4_row_38 : decode M_X4_row.2.1 38 = .ok (.ifCond .ge 6, 3) := by decide +kernel
theorem dX4_row_41 : decode M_X4_row.2.1 41 = .ok (.bipush (-14), 2) := by decide +kernel
theorem dX4_row_43 : decode M_X4_row.2.1 43 = .ok (.ireturn, 1) := by decide +kernel
theorem dX4_row_44 : decode M_X4_row.2.1 44 = .ok (.aload_n 0, 1) := by decide +kernel
theorem dX4_row_45 : decode M_X4_row.2.1 45 = .ok (.getfield 37, 3) := by decide +kernel
theorem dX4_row_48 : decode M_X4_row.2.1 48 = .ok (.iload_n 1, 1) := by decide +kernel
theorem dX4_row_49 : decode M_X4_row.2.1 49 = .ok (.iconst 2, 1) := by decide +kernel
theorem dX4_row_50 : decode M_X4_row.2.1 50 = .ok (.iastore, 1) := by decide +kernel
theorem dX4_row_51 : decode M_X4_row.2.1 51 = .ok (.aload_n 0, 1) := by decide +kernel
theorem dX4_row_52 : decode M_X4_row.2.1 52 = .ok (.getfield 46, 3) := by decide +kernel
theorem dX4_row_55 : decode M_X4_row.2.1 55 = .ok (.iload_n 1, 1) := by decide +kernel
theorem dX4_row_56 : decode M_X4_row.2.1 56 = .ok (.iload_n 2, 1) := by decide +kernel
theorem dX4_row_57 : decode M_X4_row.2.1 57 = .ok (.iastore, 1) := by decide +kernel
theorem dX4_row_58 : decode M_X4_row.2.1 58 = .ok (.aload_n 0, 1) := by decide +kernel
theorem dX4_row_59 : decode M_X4_row.2.1 59 = .ok (.getfield 49, 3) := by decide +kernel
theorem dX4_row_62 : decode M_X4_row.2.1 62 = .ok (.iload_n 1, 1) := by decide +kernel
theorem dX4_row_63 : decode M_X4_row.2.1 63 = .ok (.iload_n 3, 1) := by decide +kernel
theorem dX4_row_64 : decode M_X4_row.2.1 64 = .ok (.iastore, 1) := by decide +kernel
theorem dX4_row_65 : decode M_X4_row.2.1 65 = .ok (.iconst 0, 1) := by decide +kernel
theorem dX4_row_66 : decode M_X4_row.2.1 66 = .ok (.istore 4, 2) := by decide +kernel
theorem dX4_row_68 : decode M_X4_row.2.1 68 = .ok (.iload 4, 2) := by decide +kernel
theorem dX4_row_70 : decode M_X4_row.2.1 70 = .ok (.bipush 100, 2) := by decide +kernel
theorem dX4_row_72 : decode M_X4_row.2.1 72 = .ok (.if_icmp .ge 22, 3) := by decide +kernel
theorem dX4_row_75 : decode M_X4_row.2.1 75 = .ok (.aload_n 0, 1) := by decide +kernel
theorem dX4_row_76 : decode M_X4_row.2.1 76 = .ok (.getfield 52, 3) := by decide +kernel
theorem dX4_row_79 : decode M_X4_row.2.1 79 = .ok (.bipush 100, 2) := by decide +kernel
theorem dX4_row_81 : decode M_X4_row.2.1 81 = .ok (.iload_n 1, 1) := by decide +kernel
theorem dX4_row_82 : decode M_X4_row.2.1 82 = .ok (.imul, 1) := by decide +kernel
theorem dX4_row_83 : decode M_X4_row.2.1 83 = .ok (.iload 4, 2) := by decide +kernel
theorem dX4_row_85 : decode M_X4_row.2.1 85 = .ok (.iadd, 1) := by decide +kernel
theorem dX4_row_86 : decode M_X4_row.2.1 86 = .ok (.lconst 0, 1) := by decide +kernel
theorem dX4_row_87 : decode M_X4_row.2.1 87 = .ok (.lastore, 1) := by decide +kernel
theorem dX4_row_88 : decode M_X4_row.2.1 88 = .ok (.iinc 4 1, 3) := by decide +kernel
theorem dX4_row_91 : decode M_X4_row.2.1 91 = .ok (.goto (-23), 3) := by decide +kernel
theorem dX4_row_94 : decode M_X4_row.2.1 94 = .ok (.iconst 0, 1) := by decide +kernel
theorem dX4_row_95 : decode M_X4_row.2.1 95 = .ok (.ireturn, 1) := by decide +kernel
def c_X4_row_68 (a0 : Nat) (a1 : Int32) (a2 : Int32) (a3 : Int32) (k68 : Int32 → aW → Option (Int32 × aW)) (b4 : Int32) (w : aW) : Option (Int32 × aW) :=
  if (100 : Int32) ≤ b4 then
    some ((0 : Int32), w)
  else
    (gR 3 w a0 18).bind fun r12 =>
    (sL w r12 (((100 : Int32) * a1) + b4) (0 : Int64)).bind fun w13 =>
    k68 (b4 + 1) w13
theorem t_X4_row_68 (a0 : Nat) (a1 : Int32) (a2 : Int32) (a3 : Int32) (k68 : Int32 → aW → Option (Int32 × aW)) (hk68 : ∀ (b4 : Int32) (w : aW), Ev rvI M_X4_row 68 [some (.ref a0), some (.int a1), none, none, some (.int b4)] [] w (k68 b4 w)) (b4 : Int32) (w : aW) : Ev rvI M_X4_row 68 [some (.ref a0), some (.int a1), none, none, some (.int b4)] [] w (c_X4_row_68 a0 a1 a2 a3 k68 b4 w) := by
  unfold c_X4_row_68
  refine e_iload (pc := 68) dX4_row_68 rfl ?_
  refine e_bipush (pc := 70) dX4_row_70 kb_100 ?_
  refine e_icmp_ge (pc := 72) (tgt := 94) dX4_row_72 (by decide) (fun _ => ?_) (fun _ => ?_)
  · refine e_iconst (pc := 94) dX4_row_94 kc_0 ?_
    exact e_iret (pc := 95) dX4_row_95 rfl rfl
  · refine e_aload_n (pc := 75) dX4_row_75 rfl rfl ?_
    refine e_getR (pc := 76) dX4_row_76 hs_X4_52 (fun r12 => ?_)
    refine e_bipush (pc := 79) dX4_row_79 kb_100 ?_
    refine e_iload_n (pc := 81) dX4_row_81 rfl rfl ?_
    refine e_imul (pc := 82) dX4_row_82 ?_
    refine e_iload (pc := 83) dX4_row_83 rfl ?_
    refine e_iadd (pc := 85) dX4_row_85 ?_
    refine e_lconst (pc := 86) (v := 0) dX4_row_86 (by decide) ?_
    refine e_last (pc := 87) dX4_row_87 (fun w13 => ?_)
    refine e_iinc (L' := [some (.ref a0), some (.int a1), none, none, some (.int (b4 + 1))]) (pc := 88) (v := 1) dX4_row_88 (by decide) rfl kc_1 rfl ?_
    refine e_goto (pc := 91) (tgt := 68) dX4_row_91 (by decide) ?_
    exact hk68 (b4 + 1) w13
def f_X4_row (a0 : Nat) (a1 : Int32) (a2 : Int32) (a3 : Int32) (w : aW) : Option (Int32 × aW) :=
  (sF 3 w a0 19 (.int (0 : Int32))).bind fun w1 =>
  bk (f_X4_in a1.toInt64 (0 : Int64) (7 : Int64) w1) fun x3 w2 =>
  if x3 = (0 : Int32) then
    some ((-1 : Int32), w2)
  else
    bk (f_X4_in a2.toInt64 (0 : Int64) (2 : Int64) w2) fun x5 w4 =>
    if x5 = (0 : Int32) then
      some ((-1 : Int32), w4)
    else
      if a3 ≤ (100 : Int32) then
        if (0 : Int32) ≤ a3 then
          (gR 3 w4 a0 13).bind fun r6 =>
          (sA w4 r6 a1 (2 : Int32)).bind fun w7 =>
          (gR 3 w7 a0 16).bind fun r8 =>
          (sA w7 r8 a1 a2).bind fun w9 =>
          (gR 3 w9 a0 17).bind fun r10 =>
          (sA w9 r10 a1 a3).bind fun w11 =>
          loop2 (c_X4_row_68 a0 a1 a2 a3) a_fuel (0 : Int32) w11
        else
          some ((-14 : Int32), w4)
      else
        some ((-1 : Int32), w4)
theorem s_X4_row (a0 : Nat) (a1 : Int32) (a2 : Int32) (a3 : Int32) (w : aW) : Sp rvI M_X4_row [.ref a0, .int a1, .int a2, .int a3] w (f_X4_row a0 a1 a2 a3 w) := by
  refine e_entry [some (.ref a0), some (.int a1), some (.int a2), some (.int a3), none] (by decide +kernel) (Nat.le_of_ble_eq_true rfl) (fun _ => rfl) ?_
  unfold f_X4_row
  refine e_aload_n (pc := 0) dX4_row_0 rfl rfl ?_
  refine e_iconst (pc := 1) dX4_row_1 kc_0 ?_
  refine e_put (pc := 2) dX4_row_2 hw_X4_80 (fun _ => rfl) (fun _ => rfl) (fun w1 => ?_)
  refine e_iload_n (pc := 5) dX4_row_5 rfl rfl ?_
  refine e_i2l (pc := 6) dX4_row_6 ?_
  refine e_lconst (pc := 7) (v := 0) dX4_row_7 (by decide) ?_
  refine e_ldc2 (pc := 8) (v := 7) dX4_row_8 (a_in 990 (by decide +kernel) rfl) ?_
  refine e_callS (pc := 11) (av := [.long a1.toInt64, .long (0 : Int64), .long (7 : Int64)]) (S := []) ok_X4_in ⟨Nat.le_of_ble_eq_true rfl, Nat.le_of_ble_eq_true rfl⟩ ht_X4_86 dX4_row_11 (s_X4_in a1.toInt64 (0 : Int64) (7 : Int64) w1) rfl rfl (Nat.le_of_ble_eq_true rfl) (fun x3 w2 => ?_)
  refine e_if_eq (pc := 14) (tgt := 35) dX4_row_14 (by decide) (fun _ => ?_) (fun _ => ?_)
  · refine e_iconst (pc := 35) dX4_row_35 kc_m1 ?_
    exact e_iret (pc := 36) dX4_row_36 rfl rfl
  · refine e_iload_n (pc := 17) dX4_row_17 rfl rfl ?_
    refine e_i2l (pc := 18) dX4_row_18 ?_
    refine e_lconst (pc := 19) (v := 0) dX4_row_19 (by decide) ?_
    refine e_ldc2 (pc := 20) (v := 2) dX4_row_20 (a_in 1204 (by decide +kernel) rfl) ?_
    refine e_callS (pc := 23) (av := [.long a2.toInt64, .long (0 : Int64), .long (2 : Int64)]) (S := []) ok_X4_in ⟨Nat.le_of_ble_eq_true rfl, Nat.le_of_ble_eq_true rfl⟩ ht_X4_86 dX4_row_23 (s_X4_in a2.toInt64 (0 : Int64) (2 : Int64) w2) rfl rfl (Nat.le_of_ble_eq_true rfl) (fun x5 w4 => ?_)
    refine e_if_eq (pc := 26) (tgt := 35) dX4_row_26 (by decide) (fun _ => ?_) (fun _ => ?_)
    · refine e_iconst (pc := 35) dX4_row_35 kc_m1 ?_
      exact e_iret (pc := 36) dX4_row_36 rfl rfl
    · refine e_iload_n (pc := 29) dX4_row_29 rfl rfl ?_
      refine e_bipush (pc := 30) dX4_row_30 kb_100 ?_
      refine e_icmp_le (pc := 32) (tgt := 37) dX4_row_32 (by decide) (fun _ => ?_) (fun _ => ?_)
      · refine e_iload_n (pc := 37) dX4_row_37 rfl rfl ?_
        refine e_if_ge (pc := 38) (tgt := 44) dX4_row_38 (by decide) (fun _ => ?_) (fun _ => ?_)
        · refine e_aload_n (pc := 44) dX4_row_44 rfl rfl ?_
          refine e_getR (pc := 45) dX4_row_45 hs_X4_37 (fun r6 => ?_)
          refine e_iload_n (pc := 48) dX4_row_48 rfl rfl ?_
          refine e_iconst (pc := 49) dX4_row_49 kc_2 ?_
          refine e_iast (pc := 50) dX4_row_50 (fun w7 => ?_)
          refine e_aload_n (pc := 51) dX4_row_51 rfl rfl ?_
          refine e_getR (pc := 52) dX4_row_52 hs_X4_46 (fun r8 => ?_)
          refine e_iload_n (pc := 55) dX4_row_55 rfl rfl ?_
          refine e_iload_n (pc := 56) dX4_row_56 rfl rfl ?_
          refine e_iast (pc := 57) dX4_row_57 (fun w9 => ?_)
          refine e_aload_n (pc := 58) dX4_row_58 rfl rfl ?_
          refine e_getR (pc := 59) dX4_row_59 hs_X4_49 (fun r10 => ?_)
          refine e_iload_n (pc := 62) dX4_row_62 rfl rfl ?_
          refine e_iload_n (pc := 63) dX4_row_63 rfl rfl ?_
          refine e_iast (pc := 64) dX4_row_64 (fun w11 => ?_)
          refine e_iconst (pc := 65) dX4_row_65 kc_0 ?_
          refine e_istore (L' := [some (.ref a0), some (.int a1), some (.int a2), some (.int a3), some (.int (0 : Int32))]) (pc := 66) dX4_row_66 (by decide) rfl ?_
          refine e_forget (L2 := [some (.ref a0), some (.int a1), none, none, some (.int (0 : Int32))]) (And.intro rfl (And.intro rfl (And.intro rfl trivial))) ?_
          exact e_loop2 (L := fun b4 => [some (.ref a0), some (.int a1), none, none, some (.int b4)]) (S := fun b4 => []) (fun kf hkf => t_X4_row_68 a0 a1 a2 a3  kf hkf) _ (0 : Int32) w11
        · refine e_bipush (pc := 41) dX4_row_41 kb_m14 ?_
          exact e_iret (pc := 43) dX4_row_43 rfl rfl
      · refine e_iconst (pc := 35) dX4_row_35 kc_m1 ?_
        exact e_iret (pc := 36) dX4_row_36 rfl rfl
def M_X4_put : aM := (yX4_put, cX4_put, 5, (some .int), 2, 46)
theorem ok_X4_put : a_okM M_X4_put 3 := ⟨⟨by decide +kernel, by decide +kernel⟩, by decide +kernel, a_in 1417 (by decide +kernel) rfl, a_in 79 (by decide +kernel) rfl⟩
theorem dX4_put_0 : decode M_X4_put.2.1 0 = .ok (.aload_n 0, 1) := by decide +kernel
theorem dX4_put_1 : decode M_X4_put.2.1 1 = .ok (.iconst 0, 1) := by decide +kernel
theorem dX4_put_2 : decode M_X4_put.2.1 2 = .ok (.putfield 80, 3) := by decide +kernel
theorem dX4_put_5 : decode M_X4_put.2.1 5 = .ok (.aload_n 0, 1) := by decide +kernel
theorem dX4_put_6 : decode M_X4_put.2.1 6 = .ok (.iload_n 1, 1) := by decide +kernel
theorem dX4_put_7 : decode M_X4_put.2.1 7 = .ok (.invokevirtual 215, 3) := by decide +kernel
theorem dX4_put_10 : decode M_X4_put.2.1 10 = .ok (.istore 4, 2) := by decide +kernel
theorem dX4_put_12 : decode M_X4_put.2.1 12 = .ok (.iload 4, 2) := by decide +kernel
theorem dX4_put_14 : decode M_X4_put.2.1 14 = .ok (.ifCond .ge 6, 3) := by decide +kernel
theorem dX4_put_17 : decode M_X4_put.2.1 17 = .ok (.iload 4, 2) := by decide +kernel
theorem dX4_put_19 : decode M_X4_put.2.1 19 = .ok (.ireturn, 1) := by decide +kernel
theorem dX4_put_20 : decode M_X4_put.2.1 20 = .ok (.iload_n 2, 1) := by decide +kernel
theorem dX4_put_21 : decode M_X4_put.2.1 21 = .ok (.i2l, 1) := by decide +kernel
theorem dX4_put_22 : decode M_X4_put.2.1 22 = .ok (.lconst 0, 1) := by decide +kernel
theorem dX4_put_23 : decode M_X4_put.2.1 23 = .ok (.aload_n 0, 1) := by decide +kernel
theorem dX4_put_24 : decode M_X4_put.2.1 24 = .ok (.getfield 49, 3) := by decide +kernel
theorem dX4_put_27 : decode M_X4_put.2.1 27 = .ok (.iload_n 1, 1) := by decide +kernel
theorem dX4_put_28 : decode M_X4_put.2.1 28 = .ok (.iaload, 1) := by decide +kernel
theorem dX4_put_29 : decode M_X4_put.2.1 29 = .ok (.iconst 1, 1) := by decide +kernel
theorem dX4_put_30 : decode M_X4_put.2.1 30 = .ok (.isub, 1) := by decide +kernel
theorem dX4_put_31 : decode M_X4_put.2.1 31 = .ok (.i2l, 1) := by decide +kernel
theorem dX4_put_32 : decode M_X4_put.2.1 32 = .ok (.invokestatic 86, 3) := by decide +kernel
theorem dX4_put_35 : decode M_X4_put.2.1 35 = .ok (.ifCond .ne 6, 3) := by decide +kernel
theorem dX4_put_38 : decode M_X4_put.2.1 38 = .ok (.bipush (-13), 2) := by decide +kernel
theorem dX4_put_40 : decode M_X4_put.2.1 40 = .ok (.ireturn, 1) := by decide +kernel
theorem dX4_put_41 : decode M_X4_put.2.1 41 = .ok (.aload_n 0, 1) := by decide +kernel
theorem dX4_put_42 : decode M_X4_put.2.1 42 = .ok (.getfield 52, 3) := by decide +kernel
theorem dX4_put_45 : decode M_X4_put.2.1 45 = .ok (.bipush 100, 2) := by decide +kernel
theorem dX4_put_47 : decode M_X4_put.2.1 47 = .ok (.iload_n 1, 1) := by decide +kernel
theorem dX4_put_48 : decode M_X4_put.2.1 48 = .ok (.imul, 1) := by decide +kernel
theorem dX4_put_49 : decode M_X4_put.2.1 49 = .ok (.iload_n 2, 1) := by decide +kernel
theorem dX4_put_50 : decode M_X4_put.2.1 50 = .ok (.iadd, 1) := by decide +kernel
theorem dX4_put_51 : decode M_X4_put.2.1 51 = .ok (.iload_n 3, 1) := by decide +kernel
theorem dX4_put_52 : decode M_X4_put.2.1 52 = .ok (.aload_n 0, 1) := by decide +kernel
theorem dX4_put_53 : decode M_X4_put.2.1 53 = .ok (.getfield 46, 3) := by decide +kernel
theorem dX4_put_56 : decode M_X4_put.2.1 56 = .ok (.iload_n 1, 1) := by decide +kernel
theorem dX4_put_57 : decode M_X4_put.2.1 57 = .ok (.iaload, 1) := by decide +kernel
theorem dX4_put_58 : decode M_X4_put.2.1 58 = .ok (.invokestatic 373, 3) := by decide +kernel
theorem dX4_put_61 : decode M_X4_put.2.1 61 = .ok (.lastore, 1) := by decide +kernel
theorem dX4_put_62 : decode M_X4_put.2.1 62 = .ok (.iconst 0, 1) := by decide +kernel
theorem dX4_put_63 : decode M_X4_put.2.1 63 = .ok (.ireturn, 1) := by decide +kernel
theorem ht_X4_373 : a_okS RX4 M_X4_narrowed 373 := ⟨a_in 1418 (by decide +kernel) rfl, a_in 1419 (by decide +kernel) rfl⟩
def f_X4_put (a0 : Nat) (a1 : Int32) (a2 : Int32) (a3 : Int32) (w : aW) : Option (Int32 × aW) :=
  (sF 3 w a0 19 (.int (0 : Int32))).bind fun w1 =>
  cV 3 w1 a0 (bk (f_X4_wrongRow a0 a1 w1) fun x3 w2 =>
  if (0 : Int32) ≤ x3 then
    (gR 3 w2 a0 17).bind fun r4 =>
    (gA w2 r4 a1).bind fun x5 =>
    bk (f_X4_in a2.toInt64 (0 : Int64) ((x5 - (1 : Int32)).toInt64) w2) fun x7 w6 =>
    if ¬ x7 = (0 : Int32) then
      (gR 3 w6 a0 18).bind fun r8 =>
      (gR 3 w6 a0 16).bind fun r9 =>
      (gA w6 r9 a1).bind fun x10 =>
      bk (f_X4_narrowed a3 x10 w6) fun x12 w11 =>
      (sL w11 r8 (((100 : Int32) * a1) + a2) x12).bind fun w13 =>
      some ((0 : Int32), w13)
    else
      some ((-13 : Int32), w6)
  else
    some (x3, w2))
theorem s_X4_put (a0 : Nat) (a1 : Int32) (a2 : Int32) (a3 : Int32) (w : aW) : Sp rvI M_X4_put [.ref a0, .int a1, .int a2, .int a3] w (f_X4_put a0 a1 a2 a3 w) := by
  refine e_entry [some (.ref a0), some (.int a1), some (.int a2), some (.int a3), none] (by decide +kernel) (Nat.le_of_ble_eq_true rfl) (fun _ => rfl) ?_
  unfold f_X4_put
  refine e_aload_n (pc := 0) dX4_put_0 rfl rfl ?_
  refine e_iconst (pc := 1) dX4_put_1 kc_0 ?_
  refine e_put (pc := 2) dX4_put_2 hw_X4_80 (fun _ => rfl) (fun _ => rfl) (fun w1 => ?_)
  refine e_aload_n (pc := 5) dX4_put_5 rfl rfl ?_
  refine e_iload_n (pc := 6) dX4_put_6 rfl rfl ?_
  refine e_callV (pc := 7) (av := [.int a1]) (S := []) (c0 := 3) rfl rfl ok_X4_wrongRow ⟨Nat.le_of_ble_eq_true rfl, Nat.le_of_ble_eq_true rfl⟩ hv_X4_215 dX4_put_7 (s_X4_wrongRow a0 a1 w1) rfl rfl (Nat.le_of_ble_eq_true rfl) (fun x3 w2 => ?_)
  refine e_istore (L' := [some (.ref a0), some (.int a1), some (.int a2), some (.int a3), some (.int x3)]) (pc := 10) dX4_put_10 (by decide) rfl ?_
  refine e_iload (pc := 12) dX4_put_12 rfl ?_
  refine e_if_ge (pc := 14) (tgt := 20) dX4_put_14 (by decide) (fun _ => ?_) (fun _ => ?_)
  · refine e_iload_n (pc := 20) dX4_put_20 rfl rfl ?_
    refine e_i2l (pc := 21) dX4_put_21 ?_
    refine e_lconst (pc := 22) (v := 0) dX4_put_22 (by decide) ?_
    refine e_aload_n (pc := 23) dX4_put_23 rfl rfl ?_
    refine e_getR (pc := 24) dX4_put_24 hs_X4_49 (fun r4 => ?_)
    refine e_iload_n (pc := 27) dX4_put_27 rfl rfl ?_
    refine e_iald (pc := 28) dX4_put_28 (fun x5 => ?_)
    refine e_iconst (pc := 29) dX4_put_29 kc_1 ?_
    refine e_isub (pc := 30) dX4_put_30 ?_
    refine e_i2l (pc := 31) dX4_put_31 ?_
    refine e_callS (pc := 32) (av := [.long a2.toInt64, .long (0 : Int64), .long ((x5 - (1 : Int32)).toInt64)]) (S := []) ok_X4_in ⟨Nat.le_of_ble_eq_true rfl, Nat.le_of_ble_eq_true rfl⟩ ht_X4_86 dX4_put_32 (s_X4_in a2.toInt64 (0 : Int64) ((x5 - (1 : Int32)).toInt64) w2) rfl rfl (Nat.le_of_ble_eq_true rfl) (fun x7 w6 => ?_)
    refine e_if_ne (pc := 35) (tgt := 41) dX4_put_35 (by decide) (fun _ => ?_) (fun _ => ?_)
    · refine e_aload_n (pc := 41) dX4_put_41 rfl rfl ?_
      refine e_getR (pc := 42) dX4_put_42 hs_X4_52 (fun r8 => ?_)
      refine e_bipush (pc := 45) dX4_put_45 kb_100 ?_
      refine e_iload_n (pc := 47) dX4_put_47 rfl rfl ?_
      refine e_imul (pc := 48) dX4_put_48 ?_
      refine e_iload_n (pc := 49) dX4_put_49 rfl rfl ?_
      refine e_iadd (pc := 50) dX4_put_50 ?_
      refine e_iload_n (pc := 51) dX4_put_51 rfl rfl ?_
      refine e_aload_n (pc := 52) dX4_put_52 rfl rfl ?_
      refine e_getR (pc := 53) dX4_put_53 hs_X4_46 (fun r9 => ?_)
      refine e_iload_n (pc := 56) dX4_put_56 rfl rfl ?_
      refine e_iald (pc := 57) dX4_put_57 (fun x10 => ?_)
      refine e_callS (pc := 58) (av := [.int a3, .int x10]) (S := [.int (((100 : Int32) * a1) + a2), .ref r8]) ok_X4_narrowed ⟨Nat.le_of_ble_eq_true rfl, Nat.le_of_ble_eq_true rfl⟩ ht_X4_373 dX4_put_58 (s_X4_narrowed a3 x10 w6) rfl rfl (Nat.le_of_ble_eq_true rfl) (fun x12 w11 => ?_)
      refine e_last (pc := 61) dX4_put_61 (fun w13 => ?_)
      refine e_iconst (pc := 62) dX4_put_62 kc_0 ?_
      exact e_iret (pc := 63) dX4_put_63 rfl rfl
    · refine e_bipush (pc := 38) dX4_put_38 kb_m13 ?_
      exact e_iret (pc := 40) dX4_put_40 rfl rfl
  · refine e_iload (pc := 17) dX4_put_17 rfl ?_
    exact e_iret (pc := 19) dX4_put_19 rfl rfl
def M_X4_element : aM := (yX4_element, cX4_element, 4, (some .long), 2, 46)
theorem ok_X4_element : a_okM M_X4_element 2 := ⟨⟨by decide +kernel, by decide +kernel⟩, by decide +kernel, a_in 1424 (by decide +kernel) rfl, a_in 79 (by decide +kernel) rfl⟩
theorem dX4_element_0 : decode M_X4_element.2.1 0 = .ok (.aload_n 0, 1) := by decide +kernel
theorem dX4_element_1 : decode M_X4_element.2.1 1 = .ok (.iload_n 1, 1) := by decide +kernel
theorem dX4_element_2 : decode M_X4_element.2.1 2 = .ok (.invokevirtual 215, 3) := by decide +kernel
theorem dX4_element_5 : decode M_X4_element.2.1 5 = .ok (.istore_n 3, 1) := by decide +kernel
theorem dX4_element_6 : decode M_X4_element.2.1 6 = .ok (.aload_n 0, 1) := by decide +kernel
theorem dX4_element_7 : decode M_X4_element.2.1 7 = .ok (.iload_n 3, 1) := by decide +kernel
theorem dX4_element_8 : decode M_X4_element.2.1 8 = .ok (.iconst (-1), 1) := by decide +kernel
theorem dX4_element_9 : decode M_X4_element.2.1 9 = .ok (.if_icmp .ne 7, 3) := by decide +kernel
theorem dX4_element_12 : decode M_X4_element.2.1 12 = .ok (.iconst 1, 1) := by decide +kernel
theorem dX4_element_13 : decode M_X4_element.2.1 13 = .ok (.goto 30, 3) := by decide +kernel
theorem dX4_element_16 : decode M_X4_element.2.1 16 = .ok (.iload_n 3, 1) := by decide +kernel
theorem dX4_element_17 : decode M_X4_element.2.1 17 = .ok (.ifCond .lt 21, 3) := by decide +kernel
theorem dX4_element_20 : decode M_X4_element.2.1 20 = .ok (.iload_n 2, 1) := by decide +kernel
theorem dX4_element_21 : decode M_X4_element.2.1 21 = .ok (.i2l, 1) := by decide +kernel
theorem dX4_element_22 : decode M_X4_element.2.1 22 = .ok (.lconst 0, 1) := by decide +kernel
theorem dX4_element_23 : decode M_X4_element.2.1 23 = .ok (.aload_n 0, 1) := by decide +kernel
theorem dX4_element_24 : decode M_X4_element.2.1 24 = .ok (.getfield 49, 3) := by decide +kernel
theorem dX4_element_27 : decode M_X4_element.2.1 27 = .ok (.iload_n 1, 1) := by decide +kernel
theorem dX4_element_28 : decode M_X4_element.2.1 28 = .ok (.iaload, 1) := by decide +kernel
theorem dX4_element_29 : decode M_X4_element.2.1 29 = .ok (.iconst 1, 1) := by decide +kernel
theorem dX4_element_30 : decode M_X4_element.2.1 30 = .ok (.isub, 1) := by decide +kernel
theorem dX4_element_31 : decode M_X4_element.2.1 31 = .ok (.i2l, 1) := by decide +kernel
theorem dX4_element_32 : decode M_X4_element.2.1 32 = .ok (.invokestatic 86, 3) := by decide +kernel
theorem dX4_element_35 : decode M_X4_element.2.1 35 = .ok (.ifCond .ne 7, 3) := by decide +kernel
theorem dX4_element_38 : decode M_X4_element.2.1 38 = .ok (.iconst 2, 1) := by decide +kernel
theorem dX4_element_39 : decode M_X4_element.2.1 39 = .ok (.goto 4, 3) := by decide +kernel
theorem dX4_element_42 : decode M_X4_element.2.1 42 = .ok (.iconst 0, 1) := by decide +kernel
theorem dX4_element_43 : decode M_X4_element.2.1 43 = .ok (.putfield 80, 3) := by decide +kernel
theorem dX4_element_46 : decode M_X4_element.2.1 46 = .ok (.aload_n 0, 1) := by decide +kernel
theorem dX4_element_47 : decode M_X4_element.2.1 47 = .ok (.getfield 80, 3) := by decide +kernel
theorem dX4_element_50 : decode M_X4_element.2.1 50 = .ok (.ifCond .le 7, 3) := by decide +kernel
theorem dX4_element_53 : decode M_X4_element.2.1 53 = .ok (.lconst 0, 1) := by decide +kernel
theorem dX4_element_54 : decode M_X4_element.2.1 54 = .ok (.goto 14, 3) := by decide +kernel
theorem dX4_element_57 : decode M_X4_element.2.1 57 = .ok (.aload_n 0, 1) := by decide +kernel
theorem dX4_element_58 : decode M_X4_element.2.1 58 = .ok (.getfield 52, 3) := by decide +kernel
theorem dX4_element_61 : decode M_X4_element.2.1 61 = .ok (.bipush 100, 2) := by decide +kernel
theorem dX4_element_63 : decode M_X4_element.2.1 63 = .ok (.iload_n 1, 1) := by decide +kernel
theorem dX4_element_64 : decode M_X4_element.2.1 64 = .ok (.imul, 1) := by decide +kernel
theorem dX4_element_65 : decode M_X4_element.2.1 65 = .ok (.iload_n 2, 1) := by decide +kernel
theorem dX4_element_66 : decode M_X4_element.2.1 66 = .ok (.iadd, 1) := by decide +kernel
theorem dX4_element_67 : decode M_X4_element.2.1 67 = .ok (.laload, 1) := by decide +kernel
theorem dX4_element_68 : decode M_X4_element.2.1 68 = .ok (.lreturn, 1) := by decide +kernel
def c_X4_element_43 (a0 : Nat) (a1 : Int32) (a2 : Int32) (s0 : Int32) (s1 : Nat) (w : aW) : Option (Int64 × aW) :=
  (sF 3 w s1 19 (.int s0)).bind fun w7 =>
  (gI 3 w7 a0 19).bind fun x8 =>
  if x8 ≤ (0 : Int32) then
    (gR 3 w7 a0 18).bind fun r9 =>
    (gL w7 r9 (((100 : Int32) * a1) + a2)).bind fun x10 =>
    some (x10, w7)
  else
    some ((0 : Int64), w7)
theorem t_X4_element_43 (a0 : Nat) (a1 : Int32) (a2 : Int32) (s0 : Int32) (s1 : Nat) (w : aW) : Ev rvL M_X4_element 43 [some (.ref a0), some (.int a1), some (.int a2), none] [.int s0, .ref s1] w (c_X4_element_43 a0 a1 a2 s0 s1 w) := by
  unfold c_X4_element_43
  refine e_put (pc := 43) dX4_element_43 hw_X4_80 (fun _ => rfl) (fun _ => rfl) (fun w7 => ?_)
  refine e_aload_n (pc := 46) dX4_element_46 rfl rfl ?_
  refine e_getI (pc := 47) dX4_element_47 hs_X4_80 (fun x8 => ?_)
  refine e_if_le (pc := 50) (tgt := 57) dX4_element_50 (by decide) (fun _ => ?_) (fun _ => ?_)
  · refine e_aload_n (pc := 57) dX4_element_57 rfl rfl ?_
    refine e_getR (pc := 58) dX4_element_58 hs_X4_52 (fun r9 => ?_)
    refine e_bipush (pc := 61) dX4_element_61 kb_100 ?_
    refine e_iload_n (pc := 63) dX4_element_63 rfl rfl ?_
    refine e_imul (pc := 64) dX4_element_64 ?_
    refine e_iload_n (pc := 65) dX4_element_65 rfl rfl ?_
    refine e_iadd (pc := 66) dX4_element_66 ?_
    refine e_lald (pc := 67) dX4_element_67 (fun x10 => ?_)
    exact e_lret (pc := 68) dX4_element_68 rfl
  · refine e_lconst (pc := 53) (v := 0) dX4_element_53 (by decide) ?_
    refine e_goto (pc := 54) (tgt := 68) dX4_element_54 (by decide) ?_
    exact e_lret (pc := 68) dX4_element_68 rfl
def f_X4_element (a0 : Nat) (a1 : Int32) (a2 : Int32) (w : aW) : Option (Int64 × aW) :=
  cV 3 w a0 (bk (f_X4_wrongRow a0 a1 w) fun x2 w1 =>
  if ¬ x2 = (-1 : Int32) then
    if x2 < (0 : Int32) then
      c_X4_element_43 a0 a1 a2 (2 : Int32) a0 w1
    else
      (gR 3 w1 a0 17).bind fun r3 =>
      (gA w1 r3 a1).bind fun x4 =>
      bk (f_X4_in a2.toInt64 (0 : Int64) ((x4 - (1 : Int32)).toInt64) w1) fun x6 w5 =>
      if ¬ x6 = (0 : Int32) then
        c_X4_element_43 a0 a1 a2 (0 : Int32) a0 w5
      else
        c_X4_element_43 a0 a1 a2 (2 : Int32) a0 w5
  else
    c_X4_element_43 a0 a1 a2 (1 : Int32) a0 w1)
theorem s_X4_element (a0 : Nat) (a1 : Int32) (a2 : Int32) (w : aW) : Sp rvL M_X4_element [.ref a0, .int a1, .int a2] w (f_X4_element a0 a1 a2 w) := by
  refine e_entry [some (.ref a0), some (.int a1), some (.int a2), none] (by decide +kernel) (Nat.le_of_ble_eq_true rfl) (fun _ => rfl) ?_
  unfold f_X4_element
  refine e_aload_n (pc := 0) dX4_element_0 rfl rfl ?_
  refine e_iload_n (pc := 1) dX4_element_1 rfl rfl ?_
  refine e_callV (pc := 2) (av := [.int a1]) (S := []) (c0 := 3) rfl rfl ok_X4_wrongRow ⟨Nat.le_of_ble_eq_true rfl, Nat.le_of_ble_eq_true rfl⟩ hv_X4_215 dX4_element_2 (s_X4_wrongRow a0 a1 w) rfl rfl (Nat.le_of_ble_eq_true rfl) (fun x2 w1 => ?_)
  refine e_istore_n (L' := [some (.ref a0), some (.int a1), some (.int a2), some (.int x2)]) (pc := 5) dX4_element_5 rfl (by decide) rfl ?_
  refine e_aload_n (pc := 6) dX4_element_6 rfl rfl ?_
  refine e_iload_n (pc := 7) dX4_element_7 rfl rfl ?_
  refine e_iconst (pc := 8) dX4_element_8 kc_m1 ?_
  refine e_icmp_ne (pc := 9) (tgt := 16) dX4_element_9 (by decide) (fun _ => ?_) (fun _ => ?_)
  · refine e_iload_n (pc := 16) dX4_element_16 rfl rfl ?_
    refine e_if_lt (pc := 17) (tgt := 38) dX4_element_17 (by decide) (fun _ => ?_) (fun _ => ?_)
    · refine e_iconst (pc := 38) dX4_element_38 kc_2 ?_
      refine e_goto (pc := 39) (tgt := 43) dX4_element_39 (by decide) ?_
      refine e_forget (L2 := [some (.ref a0), some (.int a1), some (.int a2), none]) (And.intro rfl (And.intro rfl (And.intro rfl trivial))) ?_
      exact t_X4_element_43 a0 a1 a2 (2 : Int32) a0 w1
    · refine e_iload_n (pc := 20) dX4_element_20 rfl rfl ?_
      refine e_i2l (pc := 21) dX4_element_21 ?_
      refine e_lconst (pc := 22) (v := 0) dX4_element_22 (by decide) ?_
      refine e_aload_n (pc := 23) dX4_element_23 rfl rfl ?_
      refine e_getR (pc := 24) dX4_element_24 hs_X4_49 (fun r3 => ?_)
      refine e_iload_n (pc := 27) dX4_element_27 rfl rfl ?_
      refine e_iald (pc := 28) dX4_element_28 (fun x4 => ?_)
      refine e_iconst (pc := 29) dX4_element_29 kc_1 ?_
      refine e_isub (pc := 30) dX4_element_30 ?_
      refine e_i2l (pc := 31) dX4_element_31 ?_
      refine e_callS (pc := 32) (av := [.long a2.toInt64, .long (0 : Int64), .long ((x4 - (1 : Int32)).toInt64)]) (S := [.ref a0]) ok_X4_in ⟨Nat.le_of_ble_eq_true rfl, Nat.le_of_ble_eq_true rfl⟩ ht_X4_86 dX4_element_32 (s_X4_in a2.toInt64 (0 : Int64) ((x4 - (1 : Int32)).toInt64) w1) rfl rfl (Nat.le_of_ble_eq_true rfl) (fun x6 w5 => ?_)
      refine e_if_ne (pc := 35) (tgt := 42) dX4_element_35 (by decide) (fun _ => ?_) (fun _ => ?_)
      · refine e_iconst (pc := 42) dX4_element_42 kc_0 ?_
        refine e_forget (L2 := [some (.ref a0), some (.int a1), some (.int a2), none]) (And.intro rfl (And.intro rfl (And.intro rfl trivial))) ?_
        exact t_X4_element_43 a0 a1 a2 (0 : Int32) a0 w5
      · refine e_iconst (pc := 38) dX4_element_38 kc_2 ?_
        refine e_goto (pc := 39) (tgt := 43) dX4_element_39 (by decide) ?_
        refine e_forget (L2 := [some (.ref a0), some (.int a1), some (.int a2), none]) (And.intro rfl (And.intro rfl (And.intro rfl trivial))) ?_
        exact t_X4_element_43 a0 a1 a2 (2 : Int32) a0 w5
  · refine e_iconst (pc := 12) dX4_element_12 kc_1 ?_
    refine e_goto (pc := 13) (tgt := 43) dX4_element_13 (by decide) ?_
    refine e_forget (L2 := [some (.ref a0), some (.int a1), some (.int a2), none]) (And.intro rfl (And.intro rfl (And.intro rfl trivial))) ?_
    exact t_X4_element_43 a0 a1 a2 (1 : Int32) a0 w1
def M_X4_copy : aM := (yX4_copy, cX4_copy, 7, (some .int), 1, 25)
theorem ok_X4_copy : a_okM M_X4_copy 5 := ⟨⟨by decide +kernel, by decide +kernel⟩, by decide +kernel, a_in 1428 (by decide +kernel) rfl, a_in 79 (by decide +kernel) rfl⟩
theorem dX4_copy_0 : decode M_X4_copy.2.1 0 = .ok (.aload_n 0, 1) := by decide +kernel
theorem dX4_copy_1 : decode M_X4_copy.2.1 1 = .ok (.iconst 0, 1) := by decide +kernel
theorem dX4_copy_2 : decode M_X4_copy.2.1 2 = .ok (.putfield 80, 3) := by decide +kernel
theorem dX4_copy_5 : decode M_X4_copy.2.1 5 = .ok (.iload_n 1, 1) := by decide +kernel
theorem dX4_copy_6 : decode M_X4_copy.2.1 6 = .ok (.i2l, 1) := by decide +kernel
theorem dX4_copy_7 : decode M_X4_copy.2.1 7 = .ok (.lconst 0, 1) := by decide +kernel
theorem dX4_copy_8 : decode M_X4_copy.2.1 8 = .ok (.ldc2_w 262, 3) := by decide +kernel
theorem dX4_copy_11 : decode M_X4_copy.2.1 11 = .ok (.invokestatic 86, 3) := by decide +kernel
theorem dX4_copy_14 : decode M_X4_copy.2.1 14 = .ok (.ifCond .eq 15, 3) := by decide +kernel
theorem dX4_copy_17 : decode M_X4_copy.2.1 17 = .ok (.iload_n 3, 1) := by decide +kernel
theorem dX4_copy_18 : decode M_X4_copy.2.1 18 = .ok (.i2l, 1) := by decide +kernel
theorem dX4_copy_19 : decode M_X4_copy.2.1 19 = .ok (.lconst 0, 1) := by decide +kernel
theorem dX4_copy_20 : decode M_X4_copy.2.1 20 = .ok (.ldc2_w 262, 3) := by decide +kernel
theorem dX4_copy_23 : decode M_X4_copy.2.1 23 = .ok (.invokestatic 86, 3) := by decide +kernel
theorem dX4_copy_26 : decode M_X4_copy.2.1 26 = .ok (.ifCond .ne 5, 3) := by decide +kernel
theorem dX4_copy_29 : decode M_X4_copy.2.1 29 = .ok (.iconst (-1), 1) := by decide +kernel
theorem dX4_copy_30 : decode M_X4_copy.2.1 30 = .ok (.ireturn, 1) := by decide +kernel
theorem dX4_copy_31 : decode M_X4_copy.2.1 31 = .ok (.aload_n 0, 1) := by decide +kernel
theorem dX4_copy_32 : decode M_X4_copy.2.1 32 = .ok (.getfield 37, 3) := by decide +kernel
theorem dX4_copy_35 : decode M_X4_copy.2.1 35 = .ok (.iload_n 1, 1) := by decide +kernel
theorem dX4_copy_36 : decode M_X4_copy.2.1 36 = .ok (.iaload, 1) := by decide +kernel
theorem dX4_copy_37 : decode M_X4_copy.2.1 37 = .ok (.ifCond .eq 12, 3) := by decide +kernel
theorem dX4_copy_40 : decode M_X4_copy.2.1 40 = .ok (.aload_n 0, 1) := by decide +kernel
theorem dX4_copy_41 : decode M_X4_copy.2.1 41 = .ok (.getfield 37, 3) := by decide +kernel
theorem dX4_copy_44 : decode M_X4_copy.2.1 44 = .ok (.iload_n 3, 1) := by decide +kernel
theorem dX4_copy_45 : decode M_X4_copy.2.1 45 = .ok (.iaload, 1) := by decide +kernel
theorem dX4_copy_46 : decode M_X4_copy.2.1 46 = .ok (.ifCond .ne 6, 3) := by decide +kernel
theorem dX4_copy_49 : decode M_X4_copy.2.1 49 = .ok (.bipush (-11), 2) := by decide +kernel
theorem dX4_copy_51 : decode M_X4_copy.2.1 51 = .ok (.ireturn, 1) := by decide +kernel
theorem dX4_copy_52 : decode M_X4_copy.2.1 52 = .ok (.aload_n 0, 1) := by decide +kernel
theorem dX4_copy_53 : decode M_X4_copy.2.1 53 = .ok (.getfield 37, 3) := by decide +kernel
theorem dX4_copy_56 : decode M_X4_copy.2.1 56 = .ok (.iload_n 1, 1) := by decide +kernel
theorem dX4_copy_57 : decode M_X4_copy.2.1 57 = .ok (.iaload, 1) := by decide +kernel
theorem dX4_copy_58 : decode M_X4_copy.2.1 58 = .ok (.iconst 2, 1) := by decide +kernel
theorem dX4_copy_59 : decode M_X4_copy.2.1 59 = .ok (.if_icmp .ne 28, 3) := by decide +kernel
theorem dX4_copy_62 : decode M_X4_copy.2.1 62 = .ok (.aload_n 0, 1) := by decide +kernel
theorem dX4_copy_63 : decode M_X4_copy.2.1 63 = .ok (.getfield 37, 3) := by decide +kernel
theorem dX4_copy_66 : decode M_X4_copy.2.1 66 = .ok (.iload_n 3, 1) := by decide +kernel
theorem dX4_copy_67 : decode M_X4_copy.2.1 67 = .ok (.iaload, 1) := by decide +kernel
theorem dX4_copy_68 : decode M_X4_copy.2.1 68 = .ok (.iconst 2, 1) := by decide +kernel
theorem dX4_copy_69 : decode M_X4_copy.2.1 69 = .ok (.if_icmp .ne 18, 3) := by decide +kernel
theorem dX4_copy_72 : decode M_X4_copy.2.1 72 = .ok (.aload_n 0, 1) := by decide +kernel
theorem dX4_copy_73 : decode M_X4_copy.2.1 73 = .ok (.getfield 46, 3) := by decide +kernel
theorem dX4_copy_76 : decode M_X4_copy.2.1 76 = .ok (.iload_n 1, 1) := by decide +kernel
theorem dX4_copy_77 : decode M_X4_copy.2.1 77 = .ok (.iaload, 1) := by decide +kernel
theorem dX4_copy_78 : decode M_X4_copy.2.1 78 = .ok (.aload_n 0, 1) := by decide +kernel
theorem dX4_copy_79 : decode M_X4_copy.2.1 79 = .ok (.getfield 46, 3) := by decide +kernel
theorem dX4_copy_82 : decode M_X4_copy.2.1 82 = .ok (.iload_n 3, 1) := by decide +kernel
theorem dX4_copy_83 : decode M_X4_copy.2.1 83 = .ok (.iaload, 1) := by decide +kernel
theorem dX4_copy_84 : decode M_X4_copy.2.1 84 = .ok (.if_icmp .eq 6, 3) := by decide +kernel
theorem dX4_copy_87 : decode M_X4_copy.2.1 87 = .ok (.bipush (-12), 2) := by decide +kernel
theorem dX4_copy_89 : decode M_X4_copy.2.1 89 = .ok (.ireturn, 1) := by decide +kernel
theorem dX4_copy_90 : decode M_X4_copy.2.1 90 = .ok (.iload 5, 2) := by decide +kernel
theorem dX4_copy_92 : decode M_X4_copy.2.1 92 = .ok (.ifCond .lt 39, 3) := by decide +kernel
theorem dX4_copy_95 : decode M_X4_copy.2.1 95 = .ok (.iload_n 2, 1) := by decide +kernel
theorem dX4_copy_96 : decode M_X4_copy.2.1 96 = .ok (.ifCond .lt 35, 3) := by decide +kernel
theorem dX4_copy_99 : decode M_X4_copy.2.1 99 = .ok (.iload 4, 2) := by decide +kernel
theorem dX4_copy_101 : decode M_X4_copy.2.1 101 = .ok (.ifCond .lt 30, 3) := by decide +kernel
theorem dX4_copy_104 : decode M_X4_copy.2.1 104 = .ok (.iload_n 2, 1) := by decide +kernel
theorem dX4_copy_105 : decode M_X4_copy.2.1 105 = .ok (.aload_n 0, 1) := by decide +kernel
theorem dX4_copy_106 : decode M_X4_copy.2.1 106 = .ok (.getfield 49, 3) := by decide +kernel
theorem dX4_copy_109 : decode M_X4_copy.2.1 109 = .ok (.iload_n 1, 1) := by decide +kernel
theorem dX4_copy_110 : decode M_X4_copy.2.1 110 = .ok (.iaload, 1) := by decide +kernel
theorem dX4_copy_111 : decode M_X4_copy.2.1 111 = .ok (.iload 5, 2) := by decide +kernel
theorem dX4_copy_113 : decode M_X4_copy.2.1 113 = .ok (.isub, 1) := by decide +kernel
theorem dX4_copy_114 : decode M_X4_copy.2.1 114 = .ok (.if_icmp .gt 17, 3) := by decide +kernel
theorem dX4_copy_117 : decode M_X4_copy.2.1 117 = .ok (.iload 4, 2) := by decide +kernel
theorem dX4_copy_119 : decode M_X4_copy.2.1 119 = .ok (.aload_n 0, 1) := by decide +kernel
theorem dX4_copy_120 : decode M_X4_copy.2.1 120 = .ok (.getfield 49, 3) := by decide +kernel
theorem dX4_copy_123 : decode M_X4_copy.2.1 123 = .ok (.iload_n 3, 1) := by decide +kernel
theorem dX4_copy_124 : decode M_X4_copy.2.1 124 = .ok (.iaload, 1) := by decide +kernel
theorem dX4_copy_125 : decode M_X4_copy.2.1 125 = .ok (.iload 5, 2) := by decide +kernel
theorem dX4_copy_127 : decode M_X4_copy.2.1 127 = .ok (.isub, 1) := by decide +kernel
theorem dX4_copy_128 : decode M_X4_copy.2.1 128 = .ok (.if_icmp .le 6, 3) := by decide +kernel
theorem dX4_copy_131 : decode M_X4_copy.2.1 131 = .ok (.bipush (-13), 2) := by decide +kernel
theorem dX4_copy_133 : decode M_X4_copy.2.1 133 = .ok (.ireturn, 1) := by decide +kernel
theorem dX4_copy_134 : decode M_X4_copy.2.1 134 = .ok (.iconst 0, 1) := by decide +kernel
theorem dX4_copy_135 : decode M_X4_copy.2.1 135 = .ok (.istore 6, 2) := by decide +kernel
theorem dX4_copy_137 : decode M_X4_copy.2.1 137 = .ok (.iload 6, 2) := by decide +kernel
theorem dX4_copy_139 : decode M_X4_copy.2.1 139 = .ok (.iload 5, 2) := by decide +kernel
theorem dX4_copy_141 : decode M_X4_copy.2.1 141 = .ok (.if_icmp .ge 30, 3) := by decide +kernel
theorem dX4_copy_144 : decode M_X4_copy.2.1 144 = .ok (.aload_n 0, 1) := by decide +kernel
theorem dX4_copy_145 : decode M_X4_copy.2.1 145 = .ok (.getfield 77, 3) := by decide +kernel
theorem dX4_copy_148 : decode M_X4_copy.2.1 148 = .ok (.iload 6, 2) := by decide +kernel
theorem dX4_copy_150 : decode M_X4_copy.2.1 150 = .ok (.aload_n 0, 1) := by decide +kernel
theorem dX4_copy_151 : decode M_X4_copy.2.1 151 = .ok (.getfield 52, 3) := by decide +kernel
theorem dX4_copy_154 : decode M_X4_copy.2.1 154 = .ok (.bipush 100, 2) := by decide +kernel
theorem dX4_copy_156 : decode M_X4_copy.2.1 156 = .ok (.iload_n 1, 1) := by decide +kernel
theorem dX4_copy_157 : decode M_X4_copy.2.1 157 = .ok (.imul, 1) := by decide +kernel
theorem dX4_copy_158 : decode M_X4_copy.2.1 158 = .ok (.iload_n 2, 1) := by decide +kernel
theorem dX4_copy_159 : decode M_X4_copy.2.1 159 = .ok (.iadd, 1) := by decide +kernel
theorem dX4_copy_160 : decode M_X4_copy.2.1 160 = .ok (.iload 6, 2) := by decide +kernel
theorem dX4_copy_162 : decode M_X4_copy.2.1 162 = .ok (.iadd, 1) := by decide +kernel
theorem dX4_copy_163 : decode M_X4_copy.2.1 163 = .ok (.laload, 1) := by decide +kernel
theorem dX4_copy_164 : decode M_X4_copy.2.1 164 = .ok (.lastore, 1) := by decide +kernel
theorem dX4_copy_165 : decode M_X4_copy.2.1 165 = .ok (.iinc 6 1, 3) := by decide +kernel
theorem dX4_copy_168 : decode M_X4_copy.2.1 168 = .ok (.goto (-31), 3) := by decide +kernel
theorem dX4_copy_171 : decode M_X4_copy.2.1 171 = .ok (.iconst 0, 1) := by decide +kernel
theorem dX4_copy_172 : decode M_X4_copy.2.1 172 = .ok (.istore 6, 2) := by decide +kernel
theorem dX4_copy_174 : decode M_X4_copy.2.1 174 = .ok (.iload 6, 2) := by decide +kernel
theorem dX4_copy_176 : decode M_X4_copy.2.1 176 = .ok (.iload 5, 2) := by decide +kernel
theorem dX4_copy_178 : decode M_X4_copy.2.1 178 = .ok (.if_icmp .ge 31, 3) := by decide +kernel
theorem dX4_copy_181 : decode M_X4_copy.2.1 181 = .ok (.aload_n 0, 1) := by decide +kernel
theorem dX4_copy_182 : decode M_X4_copy.2.1 182 = .ok (.getfield 52, 3) := by decide +kernel
theorem dX4_copy_185 : decode M_X4_copy.2.1 185 = .ok (.bipush 100, 2) := by decide +kernel
theorem dX4_copy_187 : decode M_X4_copy.2.1 187 = .ok (.iload_n 3, 1) := by decide +kernel
theorem dX4_copy_188 : decode M_X4_copy.2.1 188 = .ok (.imul, 1) := by decide +kernel
theorem dX4_copy_189 : decode M_X4_copy.2.1 189 = .ok (.iload 4, 2) := by decide +kernel
theorem dX4_copy_191 : decode M_X4_copy.2.1 191 = .ok (.iadd, 1) := by decide +kernel
theorem dX4_copy_192 : decode M_X4_copy.2.1 192 = .ok (.iload 6, 2) := by decide +kernel
theorem dX4_copy_194 : decode M_X4_copy.2.1 194 = .ok (.iadd, 1) := by decide +kernel
theorem dX4_copy_195 : decode M_X4_copy.2.1 195 = .ok (.aload_n 0, 1) := by decide +kernel
theorem dX4_copy_196 : decode M_X4_copy.2.1 196 = .ok (.getfield 77, 3) := by decide +kernel
theorem dX4_copy_199 : decode M_X4_copy.2.1 199 = .ok (.iload 6, 2) := by decide +kernel
theorem dX4_copy_201 : decode M_X4_copy.2.1 201 = .ok (.laload, 1) := by decide +kernel
theorem dX4_copy_202 : decode M_X4_copy.2.1 202 = .ok (.lastore, 1) := by decide +kernel
theorem dX4_copy_203 : decode M_X4_copy.2.1 203 = .ok (.iinc 6 1, 3) := by decide +kernel
theorem dX4_copy_206 : decode M_X4_copy.2.1 206 = .ok (.goto (-32), 3) := by decide +kernel
theorem dX4_copy_209 : decode M_X4_copy.2.1 209 = .ok (.iload 5, 2) := by decide +kernel
theorem dX4_copy_211 : decode M_X4_copy.2.1 211 = .ok (.ireturn, 1) := by decide +kernel
theorem hs_X4_77 : a_fs RX4 77 3 36 := ⟨RX4, TX4, 37, rfl, tin_X4, by decide, a_in 901 (by decide +kernel) rfl⟩
def c_X4_copy_174 (a0 : Nat) (a1 : Int32) (a2 : Int32) (a3 : Int32) (a4 : Int32) (a5 : Int32) (k174 : Int32 → aW → Option (Int32 × aW)) (b6 : Int32) (w : aW) : Option (Int32 × aW) :=
  if a5 ≤ b6 then
    some (a5, w)
  else
    (gR 3 w a0 18).bind fun r26 =>
    (gR 3 w a0 36).bind fun r27 =>
    (gL w r27 b6).bind fun x28 =>
    (sL w r26 ((((100 : Int32) * a3) + a4) + b6) x28).bind fun w29 =>
    k174 (b6 + 1) w29
theorem t_X4_copy_174 (a0 : Nat) (a1 : Int32) (a2 : Int32) (a3 : Int32) (a4 : Int32) (a5 : Int32) (k174 : Int32 → aW → Option (Int32 × aW)) (hk174 : ∀ (b6 : Int32) (w : aW), Ev rvI M_X4_copy 174 [some (.ref a0), none, none, some (.int a3), some (.int a4), some (.int a5), some (.int b6)] [] w (k174 b6 w)) (b6 : Int32) (w : aW) : Ev rvI M_X4_copy 174 [some (.ref a0), none, none, some (.int a3), some (.int a4), some (.int a5), some (.int b6)] [] w (c_X4_copy_174 a0 a1 a2 a3 a4 a5 k174 b6 w) := by
  unfold c_X4_copy_174
  refine e_iload (pc := 174) dX4_copy_174 rfl ?_
  refine e_iload (pc := 176) dX4_copy_176 rfl ?_
  refine e_icmp_ge (pc := 178) (tgt := 209) dX4_copy_178 (by decide) (fun _ => ?_) (fun _ => ?_)
  · refine e_iload (pc := 209) dX4_copy_209 rfl ?_
    exact e_iret (pc := 211) dX4_copy_211 rfl rfl
  · refine e_aload_n (pc := 181) dX4_copy_181 rfl rfl ?_
    refine e_getR (pc := 182) dX4_copy_182 hs_X4_52 (fun r26 => ?_)
    refine e_bipush (pc := 185) dX4_copy_185 kb_100 ?_
    refine e_iload_n (pc := 187) dX4_copy_187 rfl rfl ?_
    refine e_imul (pc := 188) dX4_copy_188 ?_
    refine e_iload (pc := 189) dX4_copy_189 rfl ?_
    refine e_iadd (pc := 191) dX4_copy_191 ?_
    refine e_iload (pc := 192) dX4_copy_192 rfl ?_
    refine e_iadd (pc := 194) dX4_copy_194 ?_
    refine e_aload_n (pc := 195) dX4_copy_195 rfl rfl ?_
    refine e_getR (pc := 196) dX4_copy_196 hs_X4_77 (fun r27 => ?_)
    refine e_iload (pc := 199) dX4_copy_199 rfl ?_
    refine e_lald (pc := 201) dX4_copy_201 (fun x28 => ?_)
    refine e_last (pc := 202) dX4_copy_202 (fun w29 => ?_)
    refine e_iinc (L' := [some (.ref a0), none, none, some (.int a3), some (.int a4), some (.int a5), some (.int (b6 + 1))]) (pc := 203) (v := 1) dX4_copy_203 (by decide) rfl kc_1 rfl ?_
    refine e_goto (pc := 206) (tgt := 174) dX4_copy_206 (by decide) ?_
    exact hk174 (b6 + 1) w29
def c_X4_copy_137 (a0 : Nat) (a1 : Int32) (a2 : Int32) (a3 : Int32) (a4 : Int32) (a5 : Int32) (k137 : Int32 → aW → Option (Int32 × aW)) (b6 : Int32) (w : aW) : Option (Int32 × aW) :=
  if a5 ≤ b6 then
    loop2 (c_X4_copy_174 a0 a1 a2 a3 a4 a5) a_fuel (0 : Int32) w
  else
    (gR 3 w a0 36).bind fun r22 =>
    (gR 3 w a0 18).bind fun r23 =>
    (gL w r23 ((((100 : Int32) * a1) + a2) + b6)).bind fun x24 =>
    (sL w r22 b6 x24).bind fun w25 =>
    k137 (b6 + 1) w25
theorem t_X4_copy_137 (a0 : Nat) (a1 : Int32) (a2 : Int32) (a3 : Int32) (a4 : Int32) (a5 : Int32) (k137 : Int32 → aW → Option (Int32 × aW)) (hk137 : ∀ (b6 : Int32) (w : aW), Ev rvI M_X4_copy 137 [some (.ref a0), some (.int a1), some (.int a2), some (.int a3), some (.int a4), some (.int a5), some (.int b6)] [] w (k137 b6 w)) (b6 : Int32) (w : aW) : Ev rvI M_X4_copy 137 [some (.ref a0), some (.int a1), some (.int a2), some (.int a3), some (.int a4), some (.int a5), some (.int b6)] [] w (c_X4_copy_137 a0 a1 a2 a3 a4 a5 k137 b6 w) := by
  unfold c_X4_copy_137
  refine e_iload (pc := 137) dX4_copy_137 rfl ?_
  refine e_iload (pc := 139) dX4_copy_139 rfl ?_
  refine e_icmp_ge (pc := 141) (tgt := 171) dX4_copy_141 (by decide) (fun _ => ?_) (fun _ => ?_)
  · refine e_iconst (pc := 171) dX4_copy_171 kc_0 ?_
    refine e_istore (L' := [some (.ref a0), some (.int a1), some (.int a2), some (.int a3), some (.int a4), some (.int a5), some (.int (0 : Int32))]) (pc := 172) dX4_copy_172 (by decide) rfl ?_
    refine e_forget (L2 := [some (.ref a0), none, none, some (.int a3), some (.int a4), some (.int a5), some (.int (0 : Int32))]) (And.intro rfl (And.intro rfl (And.intro rfl (And.intro rfl (And.intro rfl trivial))))) ?_
    exact e_loop2 (L := fun b6 => [some (.ref a0), none, none, some (.int a3), some (.int a4), some (.int a5), some (.int b6)]) (S := fun b6 => []) (fun kf hkf => t_X4_copy_174 a0 a1 a2 a3 a4 a5  kf hkf) _ (0 : Int32) w
  · refine e_aload_n (pc := 144) dX4_copy_144 rfl rfl ?_
    refine e_getR (pc := 145) dX4_copy_145 hs_X4_77 (fun r22 => ?_)
    refine e_iload (pc := 148) dX4_copy_148 rfl ?_
    refine e_aload_n (pc := 150) dX4_copy_150 rfl rfl ?_
    refine e_getR (pc := 151) dX4_copy_151 hs_X4_52 (fun r23 => ?_)
    refine e_bipush (pc := 154) dX4_copy_154 kb_100 ?_
    refine e_iload_n (pc := 156) dX4_copy_156 rfl rfl ?_
    refine e_imul (pc := 157) dX4_copy_157 ?_
    refine e_iload_n (pc := 158) dX4_copy_158 rfl rfl ?_
    refine e_iadd (pc := 159) dX4_copy_159 ?_
    refine e_iload (pc := 160) dX4_copy_160 rfl ?_
    refine e_iadd (pc := 162) dX4_copy_162 ?_
    refine e_lald (pc := 163) dX4_copy_163 (fun x24 => ?_)
    refine e_last (pc := 164) dX4_copy_164 (fun w25 => ?_)
    refine e_iinc (L' := [some (.ref a0), some (.int a1), some (.int a2), some (.int a3), some (.int a4), some (.int a5), some (.int (b6 + 1))]) (pc := 165) (v := 1) dX4_copy_165 (by decide) rfl kc_1 rfl ?_
    refine e_goto (pc := 168) (tgt := 137) dX4_copy_168 (by decide) ?_
    exact hk137 (b6 + 1) w25
def f_X4_copy (a0 : Nat) (a1 : Int32) (a2 : Int32) (a3 : Int32) (a4 : Int32) (a5 : Int32) (w : aW) : Option (Int32 × aW) :=
  (sF 3 w a0 19 (.int (0 : Int32))).bind fun w1 =>
  bk (f_X4_in a1.toInt64 (0 : Int64) (7 : Int64) w1) fun x3 w2 =>
  if x3 = (0 : Int32) then
    some ((-1 : Int32), w2)
  else
    bk (f_X4_in a3.toInt64 (0 : Int64) (7 : Int64) w2) fun x5 w4 =>
    if ¬ x5 = (0 : Int32) then
      (gR 3 w4 a0 13).bind fun r6 =>
      (gA w4 r6 a1).bind fun x7 =>
      if x7 = (0 : Int32) then
        some ((-11 : Int32), w4)
      else
        (gR 3 w4 a0 13).bind fun r8 =>
        (gA w4 r8 a3).bind fun x9 =>
        if ¬ x9 = (0 : Int32) then
          (gR 3 w4 a0 13).bind fun r10 =>
          (gA w4 r10 a1).bind fun x11 =>
          if ¬ x11 = (2 : Int32) then
            some ((-12 : Int32), w4)
          else
            (gR 3 w4 a0 13).bind fun r12 =>
            (gA w4 r12 a3).bind fun x13 =>
            if ¬ x13 = (2 : Int32) then
              some ((-12 : Int32), w4)
            else
              (gR 3 w4 a0 16).bind fun r14 =>
              (gA w4 r14 a1).bind fun x15 =>
              (gR 3 w4 a0 16).bind fun r16 =>
              (gA w4 r16 a3).bind fun x17 =>
              if x15 = x17 then
                if a5 < (0 : Int32) then
                  some ((-13 : Int32), w4)
                else
                  if a2 < (0 : Int32) then
                    some ((-13 : Int32), w4)
                  else
                    if a4 < (0 : Int32) then
                      some ((-13 : Int32), w4)
                    else
                      (gR 3 w4 a0 17).bind fun r18 =>
                      (gA w4 r18 a1).bind fun x19 =>
                      if (x19 - a5) < a2 then
                        some ((-13 : Int32), w4)
                      else
                        (gR 3 w4 a0 17).bind fun r20 =>
                        (gA w4 r20 a3).bind fun x21 =>
                        if a4 ≤ (x21 - a5) then
                          loop2 (c_X4_copy_137 a0 a1 a2 a3 a4 a5) a_fuel (0 : Int32) w4
                        else
                          some ((-13 : Int32), w4)
              else
                some ((-12 : Int32), w4)
        else
          some ((-11 : Int32), w4)
    else
      some ((-1 : Int32), w4)
theorem s_X4_copy (a0 : Nat) (a1 : Int32) (a2 : Int32) (a3 : Int32) (a4 : Int32) (a5 : Int32) (w : aW) : Sp rvI M_X4_copy [.ref a0, .int a1, .int a2, .int a3, .int a4, .int a5] w (f_X4_copy a0 a1 a2 a3 a4 a5 w) := by
  refine e_entry [some (.ref a0), some (.int a1), some (.int a2), some (.int a3), some (.int a4), some (.int a5), none] (by decide +kernel) (Nat.le_of_ble_eq_true rfl) (fun _ => rfl) ?_
  unfold f_X4_copy
  refine e_aload_n (pc := 0) dX4_copy_0 rfl rfl ?_
  refine e_iconst (pc := 1) dX4_copy_1 kc_0 ?_
  refine e_put (pc := 2) dX4_copy_2 hw_X4_80 (fun _ => rfl) (fun _ => rfl) (fun w1 => ?_)
  refine e_iload_n (pc := 5) dX4_copy_5 rfl rfl ?_
  refine e_i2l (pc := 6) dX4_copy_6 ?_
  refine e_lconst (pc := 7) (v := 0) dX4_copy_7 (by decide) ?_
  refine e_ldc2 (pc := 8) (v := 7) dX4_copy_8 (a_in 990 (by decide +kernel) rfl) ?_
  refine e_callS (pc := 11) (av := [.long a1.toInt64, .long (0 : Int64), .long (7 : Int64)]) (S := []) ok_X4_in ⟨Nat.le_of_ble_eq_true rfl, Nat.le_of_ble_eq_true rfl⟩ ht_X4_86 dX4_copy_11 (s_X4_in a1.toInt64 (0 : Int64) (7 : Int64) w1) rfl rfl (Nat.le_of_ble_eq_true rfl) (fun x3 w2 => ?_)
  refine e_if_eq (pc := 14) (tgt := 29) dX4_copy_14 (by decide) (fun _ => ?_) (fun _ => ?_)
  · refine e_iconst (pc := 29) dX4_copy_29 kc_m1 ?_
    exact e_iret (pc := 30) dX4_copy_30 rfl rfl
  · refine e_iload_n (pc := 17) dX4_copy_17 rfl rfl ?_
    refine e_i2l (pc := 18) dX4_copy_18 ?_
    refine e_lconst (pc := 19) (v := 0) dX4_copy_19 (by decide) ?_
    refine e_ldc2 (pc := 20) (v := 7) dX4_copy_20 (a_in 990 (by decide +kernel) rfl) ?_
    refine e_callS (pc := 23) (av := [.long a3.toInt64, .long (0 : Int64), .long (7 : Int64)]) (S := []) ok_X4_in ⟨Nat.le_of_ble_eq_true rfl, Nat.le_of_ble_eq_true rfl⟩ ht_X4_86 dX4_copy_23 (s_X4_in a3.toInt64 (0 : Int64) (7 : Int64) w2) rfl rfl (Nat.le_of_ble_eq_true rfl) (fun x5 w4 => ?_)
    refine e_if_ne (pc := 26) (tgt := 31) dX4_copy_26 (by decide) (fun _ => ?_) (fun _ => ?_)
    · refine e_aload_n (pc := 31) dX4_copy_31 rfl rfl ?_
      refine e_getR (pc := 32) dX4_copy_32 hs_X4_37 (fun r6 => ?_)
      refine e_iload_n (pc := 35) dX4_copy_35 rfl rfl ?_
      refine e_iald (pc := 36) dX4_copy_36 (fun x7 => ?_)
      refine e_if_eq (pc := 37) (tgt := 49) dX4_copy_37 (by decide) (fun _ => ?_) (fun _ => ?_)
      · refine e_bipush (pc := 49) dX4_copy_49 kb_m11 ?_
        exact e_iret (pc := 51) dX4_copy_51 rfl rfl
      · refine e_aload_n (pc := 40) dX4_copy_40 rfl rfl ?_
        refine e_getR (pc := 41) dX4_copy_41 hs_X4_37 (fun r8 => ?_)
        refine e_iload_n (pc := 44) dX4_copy_44 rfl rfl ?_
        refine e_iald (pc := 45) dX4_copy_45 (fun x9 => ?_)
        refine e_if_ne (pc := 46) (tgt := 52) dX4_copy_46 (by decide) (fun _ => ?_) (fun _ => ?_)
        · refine e_aload_n (pc := 52) dX4_copy_52 rfl rfl ?_
          refine e_getR (pc := 53) dX4_copy_53 hs_X4_37 (fun r10 => ?_)
          refine e_iload_n (pc := 56) dX4_copy_56 rfl rfl ?_
          refine e_iald (pc := 57) dX4_copy_57 (fun x11 => ?_)
          refine e_iconst (pc := 58) dX4_copy_58 kc_2 ?_
          refine e_icmp_ne (pc := 59) (tgt := 87) dX4_copy_59 (by decide) (fun _ => ?_) (fun _ => ?_)
          · refine e_bipush (pc := 87) dX4_copy_87 kb_m12 ?_
            exact e_iret (pc := 89) dX4_copy_89 rfl rfl
          · refine e_aload_n (pc := 62) dX4_copy_62 rfl rfl ?_
            refine e_getR (pc := 63) dX4_copy_63 hs_X4_37 (fun r12 => ?_)
            refine e_iload_n (pc := 66) dX4_copy_66 rfl rfl ?_
            refine e_iald (pc := 67) dX4_copy_67 (fun x13 => ?_)
            refine e_iconst (pc := 68) dX4_copy_68 kc_2 ?_
            refine e_icmp_ne (pc := 69) (tgt := 87) dX4_copy_69 (by decide) (fun _ => ?_) (fun _ => ?_)
            · refine e_bipush (pc := 87) dX4_copy_87 kb_m12 ?_
              exact e_iret (pc := 89) dX4_copy_89 rfl rfl
            · refine e_aload_n (pc := 72) dX4_copy_72 rfl rfl ?_
              refine e_getR (pc := 73) dX4_copy_73 hs_X4_46 (fun r14 => ?_)
              refine e_iload_n (pc := 76) dX4_copy_76 rfl rfl ?_
              refine e_iald (pc := 77) dX4_copy_77 (fun x15 => ?_)
              refine e_aload_n (pc := 78) dX4_copy_78 rfl rfl ?_
              refine e_getR (pc := 79) dX4_copy_79 hs_X4_46 (fun r16 => ?_)
              refine e_iload_n (pc := 82) dX4_copy_82 rfl rfl ?_
              refine e_iald (pc := 83) dX4_copy_83 (fun x17 => ?_)
              refine e_icmp_eq (pc := 84) (tgt := 90) dX4_copy_84 (by decide) (fun _ => ?_) (fun _ => ?_)
              · refine e_iload (pc := 90) dX4_copy_90 rfl ?_
                refine e_if_lt (pc := 92) (tgt := 131) dX4_copy_92 (by decide) (fun _ => ?_) (fun _ => ?_)
                · refine e_bipush (pc := 131) dX4_copy_131 kb_m13 ?_
                  exact e_iret (pc := 133) dX4_copy_133 rfl rfl
                · refine e_iload_n (pc := 95) dX4_copy_95 rfl rfl ?_
                  refine e_if_lt (pc := 96) (tgt := 131) dX4_copy_96 (by decide) (fun _ => ?_) (fun _ => ?_)
                  · refine e_bipush (pc := 131) dX4_copy_131 kb_m13 ?_
                    exact e_iret (pc := 133) dX4_copy_133 rfl rfl
                  · refine e_iload (pc := 99) dX4_copy_99 rfl ?_
                    refine e_if_lt (pc := 101) (tgt := 131) dX4_copy_101 (by decide) (fun _ => ?_) (fun _ => ?_)
                    · refine e_bipush (pc := 131) dX4_copy_131 kb_m13 ?_
                      exact e_iret (pc := 133) dX4_copy_133 rfl rfl
                    · refine e_iload_n (pc := 104) dX4_copy_104 rfl rfl ?_
                      refine e_aload_n (pc := 105) dX4_copy_105 rfl rfl ?_
                      refine e_getR (pc := 106) dX4_copy_106 hs_X4_49 (fun r18 => ?_)
                      refine e_iload_n (pc := 109) dX4_copy_109 rfl rfl ?_
                      refine e_iald (pc := 110) dX4_copy_110 (fun x19 => ?_)
                      refine e_iload (pc := 111) dX4_copy_111 rfl ?_
                      refine e_isub (pc := 113) dX4_copy_113 ?_
                      refine e_icmp_gt (pc := 114) (tgt := 131) dX4_copy_114 (by decide) (fun _ => ?_) (fun _ => ?_)
                      · refine e_bipush (pc := 131) dX4_copy_131 kb_m13 ?_
                        exact e_iret (pc := 133) dX4_copy_133 rfl rfl
                      · refine e_iload (pc := 117) dX4_copy_117 rfl ?_
                        refine e_aload_n (pc := 119) dX4_copy_119 rfl rfl ?_
                        refine e_getR (pc := 120) dX4_copy_120 hs_X4_49 (fun r20 => ?_)
                        refine e_iload_n (pc := 123) dX4_copy_123 rfl rfl ?_
                        refine e_iald (pc := 124) dX4_copy_124 (fun x21 => ?_)
                        refine e_iload (pc := 125) dX4_copy_125 rfl ?_
                        refine e_isub (pc := 127) dX4_copy_127 ?_
                        refine e_icmp_le (pc := 128) (tgt := 134) dX4_copy_128 (by decide) (fun _ => ?_) (fun _ => ?_)
                        · refine e_iconst (pc := 134) dX4_copy_134 kc_0 ?_
                          refine e_istore (L' := [some (.ref a0), some (.int a1), some (.int a2), some (.int a3), some (.int a4), some (.int a5), some (.int (0 : Int32))]) (pc := 135) dX4_copy_135 (by decide) rfl ?_
                          exact e_loop2 (L := fun b6 => [some (.ref a0), some (.int a1), some (.int a2), some (.int a3), some (.int a4), some (.int a5), some (.int b6)]) (S := fun b6 => []) (fun kf hkf => t_X4_copy_137 a0 a1 a2 a3 a4 a5  kf hkf) _ (0 : Int32) w4
                        · refine e_bipush (pc := 131) dX4_copy_131 kb_m13 ?_
                          exact e_iret (pc := 133) dX4_copy_133 rfl rfl
              · refine e_bipush (pc := 87) dX4_copy_87 kb_m12 ?_
                exact e_iret (pc := 89) dX4_copy_89 rfl rfl
        · refine e_bipush (pc := 49) dX4_copy_49 kb_m11 ?_
          exact e_iret (pc := 51) dX4_copy_51 rfl rfl
    · refine e_iconst (pc := 29) dX4_copy_29 kc_m1 ?_
      exact e_iret (pc := 30) dX4_copy_30 rfl rfl
def M_X4_costOf : aM := (yX4_costOf, cX4_costOf, 2, (some .int), 0, 0)
theorem ok_X4_costOf : a_okM M_X4_costOf 2 := ⟨⟨by decide +kernel, by decide +kernel⟩, by decide +kernel, a_in 1435 (by decide +kernel) rfl, a_in 79 (by decide +kernel) rfl⟩
theorem dX4_costOf_0 : decode M_X4_costOf.2.1 0 = .ok (.iload_n 0, 1) := by decide +kernel
theorem dX4_costOf_1 : decode M_X4_costOf.2.1 1 = .ok (.tableswitch 59 0 6 #[43, 59, 45, 49, 55, 57, 49], 43) := by decide +kernel
theorem dX4_costOf_44 : decode M_X4_costOf.2.1 44 = .ok (.iload_n 1, 1) := by decide +kernel
theorem dX4_costOf_45 : decode M_X4_costOf.2.1 45 = .ok (.ireturn, 1) := by decide +kernel
theorem dX4_costOf_46 : decode M_X4_costOf.2.1 46 = .ok (.iload_n 1, 1) := by decide +kernel
theorem dX4_costOf_47 : decode M_X4_costOf.2.1 47 = .ok (.iconst 3, 1) := by decide +kernel
theorem dX4_costOf_48 : decode M_X4_costOf.2.1 48 = .ok (.iadd, 1) := by decide +kernel
theorem dX4_costOf_49 : decode M_X4_costOf.2.1 49 = .ok (.ireturn, 1) := by decide +kernel
theorem dX4_costOf_50 : decode M_X4_costOf.2.1 50 = .ok (.iconst 2, 1) := by decide +kernel
theorem dX4_costOf_51 : decode M_X4_costOf.2.1 51 = .ok (.iload_n 1, 1) := by decide +kernel
theorem dX4_costOf_52 : decode M_X4_costOf.2.1 52 = .ok (.iconst 3, 1) := by decide +kernel
theorem dX4_costOf_53 : decode M_X4_costOf.2.1 53 = .ok (.iadd, 1) := by decide +kernel
theorem dX4_costOf_54 : decode M_X4_costOf.2.1 54 = .ok (.imul, 1) := by decide +kernel
theorem dX4_costOf_55 : decode M_X4_costOf.2.1 55 = .ok (.ireturn, 1) := by decide +kernel
theorem dX4_costOf_56 : decode M_X4_costOf.2.1 56 = .ok (.iconst 5, 1) := by decide +kernel
theorem dX4_costOf_57 : decode M_X4_costOf.2.1 57 = .ok (.ireturn, 1) := by decide +kernel
theorem dX4_costOf_58 : decode M_X4_costOf.2.1 58 = .ok (.iconst 0, 1) := by decide +kernel
theorem dX4_costOf_59 : decode M_X4_costOf.2.1 59 = .ok (.ireturn, 1) := by decide +kernel
theorem dX4_costOf_60 : decode M_X4_costOf.2.1 60 = .ok (.iconst 1, 1) := by decide +kernel
theorem dX4_costOf_61 : decode M_X4_costOf.2.1 61 = .ok (.ireturn, 1) := by decide +kernel
def f_X4_costOf (a0 : Int32) (a1 : Int32) (w : aW) : Option (Int32 × aW) :=
  if a0 = (0 : Int32) then
    some (a1, w)
  else
    if a0 = (1 : Int32) then
      some ((1 : Int32), w)
    else
      if a0 = (2 : Int32) then
        some ((a1 + (3 : Int32)), w)
      else
        if a0 = (3 : Int32) then
          some (((2 : Int32) * (a1 + (3 : Int32))), w)
        else
          if a0 = (4 : Int32) then
            some ((5 : Int32), w)
          else
            if a0 = (5 : Int32) then
              some ((0 : Int32), w)
            else
              if a0 = (6 : Int32) then
                some (((2 : Int32) * (a1 + (3 : Int32))), w)
              else
                some ((1 : Int32), w)
theorem s_X4_costOf (a0 : Int32) (a1 : Int32) (w : aW) : Sp rvI M_X4_costOf [.int a0, .int a1] w (f_X4_costOf a0 a1 w) := by
  refine e_entry [some (.int a0), some (.int a1)] (by decide +kernel) (Nat.le_of_ble_eq_true rfl) (fun _ => rfl) ?_
  unfold f_X4_costOf
  refine e_iload_n (pc := 0) dX4_costOf_0 rfl rfl ?_
  refine e_ite (fun h1 => ?_) (fun h1 => ?_)
  · refine e_tabIn (pc := 1) (v := 0) (j := 0) (tgt := 44) dX4_costOf_1 h1 rfl (by decide) (by decide) rfl (by decide) ?_
    refine e_iload_n (pc := 44) dX4_costOf_44 rfl rfl ?_
    exact e_iret (pc := 45) dX4_costOf_45 rfl rfl
  · refine e_ite (fun h2 => ?_) (fun h2 => ?_)
    · refine e_tabIn (pc := 1) (v := 1) (j := 1) (tgt := 60) dX4_costOf_1 h2 rfl (by decide) (by decide) rfl (by decide) ?_
      refine e_iconst (pc := 60) dX4_costOf_60 kc_1 ?_
      exact e_iret (pc := 61) dX4_costOf_61 rfl rfl
    · refine e_ite (fun h3 => ?_) (fun h3 => ?_)
      · refine e_tabIn (pc := 1) (v := 2) (j := 2) (tgt := 46) dX4_costOf_1 h3 rfl (by decide) (by decide) rfl (by decide) ?_
        refine e_iload_n (pc := 46) dX4_costOf_46 rfl rfl ?_
        refine e_iconst (pc := 47) dX4_costOf_47 kc_3 ?_
        refine e_iadd (pc := 48) dX4_costOf_48 ?_
        exact e_iret (pc := 49) dX4_costOf_49 rfl rfl
      · refine e_ite (fun h4 => ?_) (fun h4 => ?_)
        · refine e_tabIn (pc := 1) (v := 3) (j := 3) (tgt := 50) dX4_costOf_1 h4 rfl (by decide) (by decide) rfl (by decide) ?_
          refine e_iconst (pc := 50) dX4_costOf_50 kc_2 ?_
          refine e_iload_n (pc := 51) dX4_costOf_51 rfl rfl ?_
          refine e_iconst (pc := 52) dX4_costOf_52 kc_3 ?_
          refine e_iadd (pc := 53) dX4_costOf_53 ?_
          refine e_imul (pc := 54) dX4_costOf_54 ?_
          exact e_iret (pc := 55) dX4_costOf_55 rfl rfl
        · refine e_ite (fun h5 => ?_) (fun h5 => ?_)
          · refine e_tabIn (pc := 1) (v := 4) (j := 4) (tgt := 56) dX4_costOf_1 h5 rfl (by decide) (by decide) rfl (by decide) ?_
            refine e_iconst (pc := 56) dX4_costOf_56 kc_5 ?_
            exact e_iret (pc := 57) dX4_costOf_57 rfl rfl
          · refine e_ite (fun h6 => ?_) (fun h6 => ?_)
            · refine e_tabIn (pc := 1) (v := 5) (j := 5) (tgt := 58) dX4_costOf_1 h6 rfl (by decide) (by decide) rfl (by decide) ?_
              refine e_iconst (pc := 58) dX4_costOf_58 kc_0 ?_
              exact e_iret (pc := 59) dX4_costOf_59 rfl rfl
            · refine e_ite (fun h7 => ?_) (fun h7 => ?_)
              · refine e_tabIn (pc := 1) (v := 6) (j := 6) (tgt := 50) dX4_costOf_1 h7 rfl (by decide) (by decide) rfl (by decide) ?_
                refine e_iconst (pc := 50) dX4_costOf_50 kc_2 ?_
                refine e_iload_n (pc := 51) dX4_costOf_51 rfl rfl ?_
                refine e_iconst (pc := 52) dX4_costOf_52 kc_3 ?_
                refine e_iadd (pc := 53) dX4_costOf_53 ?_
                refine e_imul (pc := 54) dX4_costOf_54 ?_
                exact e_iret (pc := 55) dX4_costOf_55 rfl rfl
              · refine e_tabOut (pc := 1) (tgt := 60) dX4_costOf_1 (by have z0 := lv_neT h1 (show (0 : Int32).toInt = 0 from rfl); have z1 := lv_neT h2 (show (1 : Int32).toInt = 1 from rfl); have z2 := lv_neT h3 (show (2 : Int32).toInt = 2 from rfl); have z3 := lv_neT h4 (show (3 : Int32).toInt = 3 from rfl); have z4 := lv_neT h5 (show (4 : Int32).toInt = 4 from rfl); have z5 := lv_neT h6 (show (5 : Int32).toInt = 5 from rfl); have z6 := lv_neT h7 (show (6 : Int32).toInt = 6 from rfl); omega) (by decide) ?_
                refine e_iconst (pc := 60) dX4_costOf_60 kc_1 ?_
                exact e_iret (pc := 61) dX4_costOf_61 rfl rfl
def M_X4_cost : aM := (yX4_cost, cX4_cost, 2, (some .int), 2, 46)
theorem ok_X4_cost : a_okM M_X4_cost 1 := ⟨⟨by decide +kernel, by decide +kernel⟩, by decide +kernel, a_in 1432 (by decide +kernel) rfl, a_in 79 (by decide +kernel) rfl⟩
theorem dX4_cost_0 : decode M_X4_cost.2.1 0 = .ok (.aload_n 0, 1) := by decide +kernel
theorem dX4_cost_1 : decode M_X4_cost.2.1 1 = .ok (.iconst 0, 1) := by decide +kernel
theorem dX4_cost_2 : decode M_X4_cost.2.1 2 = .ok (.putfield 80, 3) := by decide +kernel
theorem dX4_cost_5 : decode M_X4_cost.2.1 5 = .ok (.aload_n 0, 1) := by decide +kernel
theorem dX4_cost_6 : decode M_X4_cost.2.1 6 = .ok (.iload_n 1, 1) := by decide +kernel
theorem dX4_cost_7 : decode M_X4_cost.2.1 7 = .ok (.invokevirtual 264, 3) := by decide +kernel
theorem dX4_cost_10 : decode M_X4_cost.2.1 10 = .ok (.ifCond .ge 11, 3) := by decide +kernel
theorem dX4_cost_13 : decode M_X4_cost.2.1 13 = .ok (.aload_n 0, 1) := by decide +kernel
theorem dX4_cost_14 : decode M_X4_cost.2.1 14 = .ok (.iload_n 1, 1) := by decide +kernel
theorem dX4_cost_15 : decode M_X4_cost.2.1 15 = .ok (.invokevirtual 264, 3) := by decide +kernel
theorem dX4_cost_18 : decode M_X4_cost.2.1 18 = .ok (.goto 18, 3) := by decide +kernel
theorem dX4_cost_21 : decode M_X4_cost.2.1 21 = .ok (.aload_n 0, 1) := by decide +kernel
theorem dX4_cost_22 : decode M_X4_cost.2.1 22 = .ok (.getfield 40, 3) := by decide +kernel
theorem dX4_cost_25 : decode M_X4_cost.2.1 25 = .ok (.iload_n 1, 1) := by decide +kernel
theorem dX4_cost_26 : decode M_X4_cost.2.1 26 = .ok (.iaload, 1) := by decide +kernel
theorem dX4_cost_27 : decode M_X4_cost.2.1 27 = .ok (.aload_n 0, 1) := by decide +kernel
theorem dX4_cost_28 : decode M_X4_cost.2.1 28 = .ok (.getfield 43, 3) := by decide +kernel
theorem dX4_cost_31 : decode M_X4_cost.2.1 31 = .ok (.iload_n 1, 1) := by decide +kernel
theorem dX4_cost_32 : decode M_X4_cost.2.1 32 = .ok (.iaload, 1) := by decide +kernel
theorem dX4_cost_33 : decode M_X4_cost.2.1 33 = .ok (.invokestatic 377, 3) := by decide +kernel
theorem dX4_cost_36 : decode M_X4_cost.2.1 36 = .ok (.ireturn, 1) := by decide +kernel
theorem ht_X4_377 : a_okS RX4 M_X4_costOf 377 := ⟨a_in 1433 (by decide +kernel) rfl, a_in 1434 (by decide +kernel) rfl⟩
def f_X4_cost (a0 : Nat) (a1 : Int32) (w : aW) : Option (Int32 × aW) :=
  (sF 3 w a0 19 (.int (0 : Int32))).bind fun w1 =>
  cV 3 w1 a0 (bk (f_X4_wrongKept a0 a1 w1) fun x3 w2 =>
  if (0 : Int32) ≤ x3 then
    (gR 3 w2 a0 14).bind fun r4 =>
    (gA w2 r4 a1).bind fun x5 =>
    (gR 3 w2 a0 15).bind fun r6 =>
    (gA w2 r6 a1).bind fun x7 =>
    bk (f_X4_costOf x5 x7 w2) fun x9 w8 =>
    some (x9, w8)
  else
    cV 3 w2 a0 (bk (f_X4_wrongKept a0 a1 w2) fun x11 w10 =>
    some (x11, w10)))
theorem s_X4_cost (a0 : Nat) (a1 : Int32) (w : aW) : Sp rvI M_X4_cost [.ref a0, .int a1] w (f_X4_cost a0 a1 w) := by
  refine e_entry [some (.ref a0), some (.int a1)] (by decide +kernel) (Nat.le_of_ble_eq_true rfl) (fun _ => rfl) ?_
  unfold f_X4_cost
  refine e_aload_n (pc := 0) dX4_cost_0 rfl rfl ?_
  refine e_iconst (pc := 1) dX4_cost_1 kc_0 ?_
  refine e_put (pc := 2) dX4_cost_2 hw_X4_80 (fun _ => rfl) (fun _ => rfl) (fun w1 => ?_)
  refine e_aload_n (pc := 5) dX4_cost_5 rfl rfl ?_
  refine e_iload_n (pc := 6) dX4_cost_6 rfl rfl ?_
  refine e_callV (pc := 7) (av := [.int a1]) (S := []) (c0 := 3) rfl rfl ok_X4_wrongKept ⟨Nat.le_of_ble_eq_true rfl, Nat.le_of_ble_eq_true rfl⟩ hv_X4_264 dX4_cost_7 (s_X4_wrongKept a0 a1 w1) rfl rfl (Nat.le_of_ble_eq_true rfl) (fun x3 w2 => ?_)
  refine e_if_ge (pc := 10) (tgt := 21) dX4_cost_10 (by decide) (fun _ => ?_) (fun _ => ?_)
  · refine e_aload_n (pc := 21) dX4_cost_21 rfl rfl ?_
    refine e_getR (pc := 22) dX4_cost_22 hs_X4_40 (fun r4 => ?_)
    refine e_iload_n (pc := 25) dX4_cost_25 rfl rfl ?_
    refine e_iald (pc := 26) dX4_cost_26 (fun x5 => ?_)
    refine e_aload_n (pc := 27) dX4_cost_27 rfl rfl ?_
    refine e_getR (pc := 28) dX4_cost_28 hs_X4_43 (fun r6 => ?_)
    refine e_iload_n (pc := 31) dX4_cost_31 rfl rfl ?_
    refine e_iald (pc := 32) dX4_cost_32 (fun x7 => ?_)
    refine e_callS (pc := 33) (av := [.int x5, .int x7]) (S := []) ok_X4_costOf ⟨Nat.le_of_ble_eq_true rfl, Nat.le_of_ble_eq_true rfl⟩ ht_X4_377 dX4_cost_33 (s_X4_costOf x5 x7 w2) rfl rfl (Nat.le_of_ble_eq_true rfl) (fun x9 w8 => ?_)
    exact e_iret (pc := 36) dX4_cost_36 rfl rfl
  · refine e_aload_n (pc := 13) dX4_cost_13 rfl rfl ?_
    refine e_iload_n (pc := 14) dX4_cost_14 rfl rfl ?_
    refine e_callV (pc := 15) (av := [.int a1]) (S := []) (c0 := 3) rfl rfl ok_X4_wrongKept ⟨Nat.le_of_ble_eq_true rfl, Nat.le_of_ble_eq_true rfl⟩ hv_X4_264 dX4_cost_15 (s_X4_wrongKept a0 a1 w2) rfl rfl (Nat.le_of_ble_eq_true rfl) (fun x11 w10 => ?_)
    refine e_goto (pc := 18) (tgt := 36) dX4_cost_18 (by decide) ?_
    exact e_iret (pc := 36) dX4_cost_36 rfl rfl
def M_X4_toss : aM := (yX4_toss, cX4_toss, 4, (some .int), 2, 46)
theorem ok_X4_toss : a_okM M_X4_toss 1 := ⟨⟨by decide +kernel, by decide +kernel⟩, by decide +kernel, a_in 1439 (by decide +kernel) rfl, a_in 79 (by decide +kernel) rfl⟩
theorem dX4_toss_0 : decode M_X4_toss.2.1 0 = .ok (.aload_n 0, 1) := by decide +kernel
theorem dX4_toss_1 : decode M_X4_toss.2.1 1 = .ok (.iconst 0, 1) := by decide +kernel
theorem dX4_toss_2 : decode M_X4_toss.2.1 2 = .ok (.putfield 80, 3) := by decide +kernel
theorem dX4_toss_5 : decode M_X4_toss.2.1 5 = .ok (.aload_n 0, 1) := by decide +kernel
theorem dX4_toss_6 : decode M_X4_toss.2.1 6 = .ok (.iload_n 1, 1) := by decide +kernel
theorem dX4_toss_7 : decode M_X4_toss.2.1 7 = .ok (.invokevirtual 264, 3) := by decide +kernel
theorem dX4_toss_10 : decode M_X4_toss.2.1 10 = .ok (.ifCond .ge 9, 3) := by decide +kernel
theorem dX4_toss_13 : decode M_X4_toss.2.1 13 = .ok (.aload_n 0, 1) := by decide +kernel
theorem dX4_toss_14 : decode M_X4_toss.2.1 14 = .ok (.iload_n 1, 1) := by decide +kernel
theorem dX4_toss_15 : decode M_X4_toss.2.1 15 = .ok (.invokevirtual 264, 3) := by decide +kernel
theorem dX4_toss_18 : decode M_X4_toss.2.1 18 = .ok (.ireturn, 1) := by decide +kernel
theorem dX4_toss_19 : decode M_X4_toss.2.1 19 = .ok (.aload_n 0, 1) := by decide +kernel
theorem dX4_toss_20 : decode M_X4_toss.2.1 20 = .ok (.getfield 40, 3) := by decide +kernel
theorem dX4_toss_23 : decode M_X4_toss.2.1 23 = .ok (.iload_n 1, 1) := by decide +kernel
theorem dX4_toss_24 : decode M_X4_toss.2.1 24 = .ok (.iaload, 1) := by decide +kernel
theorem dX4_toss_25 : decode M_X4_toss.2.1 25 = .ok (.istore_n 2, 1) := by decide +kernel
theorem dX4_toss_26 : decode M_X4_toss.2.1 26 = .ok (.aload_n 0, 1) := by decide +kernel
theorem dX4_toss_27 : decode M_X4_toss.2.1 27 = .ok (.getfield 43, 3) := by decide +kernel
theorem dX4_toss_30 : decode M_X4_toss.2.1 30 = .ok (.iload_n 1, 1) := by decide +kernel
theorem dX4_toss_31 : decode M_X4_toss.2.1 31 = .ok (.iaload, 1) := by decide +kernel
theorem dX4_toss_32 : decode M_X4_toss.2.1 32 = .ok (.istore_n 3, 1) := by decide +kernel
theorem dX4_toss_33 : decode M_X4_toss.2.1 33 = .ok (.iload_n 2, 1) := by decide +kernel
theorem dX4_toss_34 : decode M_X4_toss.2.1 34 = .ok (.iconst 1, 1) := by decide +kernel
theorem dX4_toss_35 : decode M_X4_toss.2.1 35 = .ok (.if_icmp .eq 12, 3) := by decide +kernel
theorem dX4_toss_38 : decode M_X4_toss.2.1 38 = .ok (.iload_n 2, 1) := by decide +kernel
theorem dX4_toss_39 : decode M_X4_toss.2.1 39 = .ok (.iconst 4, 1) := by decide +kernel
theorem dX4_toss_40 : decode M_X4_toss.2.1 40 = .ok (.if_icmp .eq 7, 3) := by decide +kernel
theorem dX4_toss_43 : decode M_X4_toss.2.1 43 = .ok (.iload_n 3, 1) := by decide +kernel
theorem dX4_toss_44 : decode M_X4_toss.2.1 44 = .ok (.ifCond .ne 6, 3) := by decide +kernel
theorem dX4_toss_47 : decode M_X4_toss.2.1 47 = .ok (.bipush (-15), 2) := by decide +kernel
theorem dX4_toss_49 : decode M_X4_toss.2.1 49 = .ok (.ireturn, 1) := by decide +kernel
theorem dX4_toss_50 : decode M_X4_toss.2.1 50 = .ok (.iload_n 2, 1) := by decide +kernel
theorem dX4_toss_51 : decode M_X4_toss.2.1 51 = .ok (.ifCond .ne 7, 3) := by decide +kernel
theorem dX4_toss_54 : decode M_X4_toss.2.1 54 = .ok (.iload_n 3, 1) := by decide +kernel
theorem dX4_toss_55 : decode M_X4_toss.2.1 55 = .ok (.goto 30, 3) := by decide +kernel
theorem dX4_toss_58 : decode M_X4_toss.2.1 58 = .ok (.iload_n 2, 1) := by decide +kernel
theorem dX4_toss_59 : decode M_X4_toss.2.1 59 = .ok (.iconst 5, 1) := by decide +kernel
theorem dX4_toss_60 : decode M_X4_toss.2.1 60 = .ok (.if_icmp .eq 9, 3) := by decide +kernel
theorem dX4_toss_63 : decode M_X4_toss.2.1 63 = .ok (.iload_n 2, 1) := by decide +kernel
theorem dX4_toss_64 : decode M_X4_toss.2.1 64 = .ok (.bipush 7, 2) := by decide +kernel
theorem dX4_toss_66 : decode M_X4_toss.2.1 66 = .ok (.if_icmp .ne 15, 3) := by decide +kernel
theorem dX4_toss_69 : decode M_X4_toss.2.1 69 = .ok (.sipush 200, 3) := by decide +kernel
theorem dX4_toss_72 : decode M_X4_toss.2.1 72 = .ok (.iload_n 2, 1) := by decide +kernel
theorem dX4_toss_73 : decode M_X4_toss.2.1 73 = .ok (.iload_n 3, 1) := by decide +kernel
theorem dX4_toss_74 : decode M_X4_toss.2.1 74 = .ok (.invokestatic 377, 3) := by decide +kernel
theorem dX4_toss_77 : decode M_X4_toss.2.1 77 = .ok (.iadd, 1) := by decide +kernel
theorem dX4_toss_78 : decode M_X4_toss.2.1 78 = .ok (.goto 7, 3) := by decide +kernel
theorem dX4_toss_81 : decode M_X4_toss.2.1 81 = .ok (.bipush 100, 2) := by decide +kernel
theorem dX4_toss_83 : decode M_X4_toss.2.1 83 = .ok (.iload_n 3, 1) := by decide +kernel
theorem dX4_toss_84 : decode M_X4_toss.2.1 84 = .ok (.iadd, 1) := by decide +kernel
theorem dX4_toss_85 : decode M_X4_toss.2.1 85 = .ok (.ireturn, 1) := by decide +kernel
def f_X4_toss (a0 : Nat) (a1 : Int32) (w : aW) : Option (Int32 × aW) :=
  (sF 3 w a0 19 (.int (0 : Int32))).bind fun w1 =>
  cV 3 w1 a0 (bk (f_X4_wrongKept a0 a1 w1) fun x3 w2 =>
  if (0 : Int32) ≤ x3 then
    (gR 3 w2 a0 14).bind fun r4 =>
    (gA w2 r4 a1).bind fun x5 =>
    (gR 3 w2 a0 15).bind fun r6 =>
    (gA w2 r6 a1).bind fun x7 =>
    if x5 = (1 : Int32) then
      some ((-15 : Int32), w2)
    else
      if x5 = (4 : Int32) then
        some ((-15 : Int32), w2)
      else
        if ¬ x7 = (0 : Int32) then
          if ¬ x5 = (0 : Int32) then
            if x5 = (5 : Int32) then
              bk (f_X4_costOf x5 x7 w2) fun x9 w8 =>
              some (((200 : Int32) + x9), w8)
            else
              if ¬ x5 = (7 : Int32) then
                some (((100 : Int32) + x7), w2)
              else
                bk (f_X4_costOf x5 x7 w2) fun x11 w10 =>
                some (((200 : Int32) + x11), w10)
          else
            some (x7, w2)
        else
          some ((-15 : Int32), w2)
  else
    cV 3 w2 a0 (bk (f_X4_wrongKept a0 a1 w2) fun x13 w12 =>
    some (x13, w12)))
theorem s_X4_toss (a0 : Nat) (a1 : Int32) (w : aW) : Sp rvI M_X4_toss [.ref a0, .int a1] w (f_X4_toss a0 a1 w) := by
  refine e_entry [some (.ref a0), some (.int a1), none, none] (by decide +kernel) (Nat.le_of_ble_eq_true rfl) (fun _ => rfl) ?_
  unfold f_X4_toss
  refine e_aload_n (pc := 0) dX4_toss_0 rfl rfl ?_
  refine e_iconst (pc := 1) dX4_toss_1 kc_0 ?_
  refine e_put (pc := 2) dX4_toss_2 hw_X4_80 (fun _ => rfl) (fun _ => rfl) (fun w1 => ?_)
  refine e_aload_n (pc := 5) dX4_toss_5 rfl rfl ?_
  refine e_iload_n (pc := 6) dX4_toss_6 rfl rfl ?_
  refine e_callV (pc := 7) (av := [.int a1]) (S := []) (c0 := 3) rfl rfl ok_X4_wrongKept ⟨Nat.le_of_ble_eq_true rfl, Nat.le_of_ble_eq_true rfl⟩ hv_X4_264 dX4_toss_7 (s_X4_wrongKept a0 a1 w1) rfl rfl (Nat.le_of_ble_eq_true rfl) (fun x3 w2 => ?_)
  refine e_if_ge (pc := 10) (tgt := 19) dX4_toss_10 (by decide) (fun _ => ?_) (fun _ => ?_)
  · refine e_aload_n (pc := 19) dX4_toss_19 rfl rfl ?_
    refine e_getR (pc := 20) dX4_toss_20 hs_X4_40 (fun r4 => ?_)
    refine e_iload_n (pc := 23) dX4_toss_23 rfl rfl ?_
    refine e_iald (pc := 24) dX4_toss_24 (fun x5 => ?_)
    refine e_istore_n (L' := [some (.ref a0), some (.int a1), some (.int x5), none]) (pc := 25) dX4_toss_25 rfl (by decide) rfl ?_
    refine e_aload_n (pc := 26) dX4_toss_26 rfl rfl ?_
    refine e_getR (pc := 27) dX4_toss_27 hs_X4_43 (fun r6 => ?_)
    refine e_iload_n (pc := 30) dX4_toss_30 rfl rfl ?_
    refine e_iald (pc := 31) dX4_toss_31 (fun x7 => ?_)
    refine e_istore_n (L' := [some (.ref a0), some (.int a1), some (.int x5), some (.int x7)]) (pc := 32) dX4_toss_32 rfl (by decide) rfl ?_
    refine e_iload_n (pc := 33) dX4_toss_33 rfl rfl ?_
    refine e_iconst (pc := 34) dX4_toss_34 kc_1 ?_
    refine e_icmp_eq (pc := 35) (tgt := 47) dX4_toss_35 (by decide) (fun _ => ?_) (fun _ => ?_)
    · refine e_bipush (pc := 47) dX4_toss_47 kb_m15 ?_
      exact e_iret (pc := 49) dX4_toss_49 rfl rfl
    · refine e_iload_n (pc := 38) dX4_toss_38 rfl rfl ?_
      refine e_iconst (pc := 39) dX4_toss_39 kc_4 ?_
      refine e_icmp_eq (pc := 40) (tgt := 47) dX4_toss_40 (by decide) (fun _ => ?_) (fun _ => ?_)
      · refine e_bipush (pc := 47) dX4_toss_47 kb_m15 ?_
        exact e_iret (pc := 49) dX4_toss_49 rfl rfl
      · refine e_iload_n (pc := 43) dX4_toss_43 rfl rfl ?_
        refine e_if_ne (pc := 44) (tgt := 50) dX4_toss_44 (by decide) (fun _ => ?_) (fun _ => ?_)
        · refine e_iload_n (pc := 50) dX4_toss_50 rfl rfl ?_
          refine e_if_ne (pc := 51) (tgt := 58) dX4_toss_51 (by decide) (fun _ => ?_) (fun _ => ?_)
          · refine e_iload_n (pc := 58) dX4_toss_58 rfl rfl ?_
            refine e_iconst (pc := 59) dX4_toss_59 kc_5 ?_
            refine e_icmp_eq (pc := 60) (tgt := 69) dX4_toss_60 (by decide) (fun _ => ?_) (fun _ => ?_)
            · refine e_sipush (pc := 69) dX4_toss_69 ks_200 ?_
              refine e_iload_n (pc := 72) dX4_toss_72 rfl rfl ?_
              refine e_iload_n (pc := 73) dX4_toss_73 rfl rfl ?_
              refine e_callS (pc := 74) (av := [.int x5, .int x7]) (S := [.int (200 : Int32)]) ok_X4_costOf ⟨Nat.le_of_ble_eq_true rfl, Nat.le_of_ble_eq_true rfl⟩ ht_X4_377 dX4_toss_74 (s_X4_costOf x5 x7 w2) rfl rfl (Nat.le_of_ble_eq_true rfl) (fun x9 w8 => ?_)
              refine e_iadd (pc := 77) dX4_toss_77 ?_
              refine e_goto (pc := 78) (tgt := 85) dX4_toss_78 (by decide) ?_
              exact e_iret (pc := 85) dX4_toss_85 rfl rfl
            · refine e_iload_n (pc := 63) dX4_toss_63 rfl rfl ?_
              refine e_bipush (pc := 64) dX4_toss_64 kb_7 ?_
              refine e_icmp_ne (pc := 66) (tgt := 81) dX4_toss_66 (by decide) (fun _ => ?_) (fun _ => ?_)
              · refine e_bipush (pc := 81) dX4_toss_81 kb_100 ?_
                refine e_iload_n (pc := 83) dX4_toss_83 rfl rfl ?_
                refine e_iadd (pc := 84) dX4_toss_84 ?_
                exact e_iret (pc := 85) dX4_toss_85 rfl rfl
              · refine e_sipush (pc := 69) dX4_toss_69 ks_200 ?_
                refine e_iload_n (pc := 72) dX4_toss_72 rfl rfl ?_
                refine e_iload_n (pc := 73) dX4_toss_73 rfl rfl ?_
                refine e_callS (pc := 74) (av := [.int x5, .int x7]) (S := [.int (200 : Int32)]) ok_X4_costOf ⟨Nat.le_of_ble_eq_true rfl, Nat.le_of_ble_eq_true rfl⟩ ht_X4_377 dX4_toss_74 (s_X4_costOf x5 x7 w2) rfl rfl (Nat.le_of_ble_eq_true rfl) (fun x11 w10 => ?_)
                refine e_iadd (pc := 77) dX4_toss_77 ?_
                refine e_goto (pc := 78) (tgt := 85) dX4_toss_78 (by decide) ?_
                exact e_iret (pc := 85) dX4_toss_85 rfl rfl
          · refine e_iload_n (pc := 54) dX4_toss_54 rfl rfl ?_
            refine e_goto (pc := 55) (tgt := 85) dX4_toss_55 (by decide) ?_
            exact e_iret (pc := 85) dX4_toss_85 rfl rfl
        · refine e_bipush (pc := 47) dX4_toss_47 kb_m15 ?_
          exact e_iret (pc := 49) dX4_toss_49 rfl rfl
  · refine e_aload_n (pc := 13) dX4_toss_13 rfl rfl ?_
    refine e_iload_n (pc := 14) dX4_toss_14 rfl rfl ?_
    refine e_callV (pc := 15) (av := [.int a1]) (S := []) (c0 := 3) rfl rfl ok_X4_wrongKept ⟨Nat.le_of_ble_eq_true rfl, Nat.le_of_ble_eq_true rfl⟩ hv_X4_264 dX4_toss_15 (s_X4_wrongKept a0 a1 w2) rfl rfl (Nat.le_of_ble_eq_true rfl) (fun x13 w12 => ?_)
    exact e_iret (pc := 18) dX4_toss_18 rfl rfl
