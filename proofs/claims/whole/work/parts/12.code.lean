/-! the decompiled methods: each f_ is what its bytecode does to a world; each s_ ties it to the machine. Written by program (wip/gen/gen.py). -/
def M_X0_toldOfPerson : aM := (yX0_toldOfPerson, cX0_toldOfPerson, 3, (some .int), 2, 49)
theorem ok_X0_toldOfPerson : a_okM M_X0_toldOfPerson 2 := ⟨⟨by decide +kernel, by decide +kernel⟩, by decide +kernel, a_in 406 (by decide +kernel) rfl, a_in 77 (by decide +kernel) rfl⟩
theorem dX0_toldOfPerson_0 : decode M_X0_toldOfPerson.2.1 0 = .ok (.iload_n 2, 1) := by decide +kernel
theorem dX0_toldOfPerson_1 : decode M_X0_toldOfPerson.2.1 1 = .ok (.tableswitch 97 0 6 #[43, 50, 57, 64, 71, 77, 87], 43) := by decide +kernel
theorem dX0_toldOfPerson_44 : decode M_X0_toldOfPerson.2.1 44 = .ok (.aload_n 0, 1) := by decide +kernel
theorem dX0_toldOfPerson_45 : decode M_X0_toldOfPerson.2.1 45 = .ok (.getfield 40, 3) := by decide +kernel
theorem dX0_toldOfPerson_48 : decode M_X0_toldOfPerson.2.1 48 = .ok (.iload_n 1, 1) := by decide +kernel
theorem dX0_toldOfPerson_49 : decode M_X0_toldOfPerson.2.1 49 = .ok (.iaload, 1) := by decide +kernel
theorem dX0_toldOfPerson_50 : decode M_X0_toldOfPerson.2.1 50 = .ok (.ireturn, 1) := by decide +kernel
theorem dX0_toldOfPerson_51 : decode M_X0_toldOfPerson.2.1 51 = .ok (.aload_n 0, 1) := by decide +kernel
theorem dX0_toldOfPerson_52 : decode M_X0_toldOfPerson.2.1 52 = .ok (.getfield 43, 3) := by decide +kernel
theorem dX0_toldOfPerson_55 : decode M_X0_toldOfPerson.2.1 55 = .ok (.iload_n 1, 1) := by decide +kernel
theorem dX0_toldOfPerson_56 : decode M_X0_toldOfPerson.2.1 56 = .ok (.iaload, 1) := by decide +kernel
theorem dX0_toldOfPerson_57 : decode M_X0_toldOfPerson.2.1 57 = .ok (.ireturn, 1) := by decide +kernel
theorem dX0_toldOfPerson_58 : decode M_X0_toldOfPerson.2.1 58 = .ok (.aload_n 0, 1) := by decide +kernel
theorem dX0_toldOfPerson_59 : decode M_X0_toldOfPerson.2.1 59 = .ok (.getfield 46, 3) := by decide +kernel
theorem dX0_toldOfPerson_62 : decode M_X0_toldOfPerson.2.1 62 = .ok (.iload_n 1, 1) := by decide +kernel
theorem dX0_toldOfPerson_63 : decode M_X0_toldOfPerson.2.1 63 = .ok (.iaload, 1) := by decide +kernel
theorem dX0_toldOfPerson_64 : decode M_X0_toldOfPerson.2.1 64 = .ok (.ireturn, 1) := by decide +kernel
theorem dX0_toldOfPerson_65 : decode M_X0_toldOfPerson.2.1 65 = .ok (.aload_n 0, 1) := by decide +kernel
theorem dX0_toldOfPerson_66 : decode M_X0_toldOfPerson.2.1 66 = .ok (.getfield 49, 3) := by decide +kernel
theorem dX0_toldOfPerson_69 : decode M_X0_toldOfPerson.2.1 69 = .ok (.iload_n 1, 1) := by decide +kernel
theorem dX0_toldOfPerson_70 : decode M_X0_toldOfPerson.2.1 70 = .ok (.iaload, 1) := by decide +kernel
theorem dX0_toldOfPerson_71 : decode M_X0_toldOfPerson.2.1 71 = .ok (.ireturn, 1) := by decide +kernel
theorem dX0_toldOfPerson_72 : decode M_X0_toldOfPerson.2.1 72 = .ok (.aload_n 0, 1) := by decide +kernel
theorem dX0_toldOfPerson_73 : decode M_X0_toldOfPerson.2.1 73 = .ok (.iload_n 1, 1) := by decide +kernel
theorem dX0_toldOfPerson_74 : decode M_X0_toldOfPerson.2.1 74 = .ok (.invokevirtual 147, 3) := by decide +kernel
theorem dX0_toldOfPerson_77 : decode M_X0_toldOfPerson.2.1 77 = .ok (.ireturn, 1) := by decide +kernel
theorem dX0_toldOfPerson_78 : decode M_X0_toldOfPerson.2.1 78 = .ok (.aload_n 0, 1) := by decide +kernel
theorem dX0_toldOfPerson_79 : decode M_X0_toldOfPerson.2.1 79 = .ok (.aload_n 0, 1) := by decide +kernel
theorem dX0_toldOfPerson_80 : decode M_X0_toldOfPerson.2.1 80 = .ok (.iload_n 1, 1) := by decide +kernel
theorem dX0_toldOfPerson_81 : decode M_X0_toldOfPerson.2.1 81 = .ok (.invokevirtual 147, 3) := by decide +kernel
theorem dX0_toldOfPerson_84 : decode M_X0_toldOfPerson.2.1 84 = .ok (.invokevirtual 150, 3) := by decide +kernel
theorem dX0_toldOfPerson_87 : decode M_X0_toldOfPerson.2.1 87 = .ok (.ireturn, 1) := by decide +kernel
theorem dX0_toldOfPerson_88 : decode M_X0_toldOfPerson.2.1 88 = .ok (.aload_n 0, 1) := by decide +kernel
theorem dX0_toldOfPerson_89 : decode M_X0_toldOfPerson.2.1 89 = .ok (.aload_n 0, 1) := by decide +kernel
theorem dX0_toldOfPerson_90 : decode M_X0_toldOfPerson.2.1 90 = .ok (.iload_n 1, 1) := by decide +kernel
theorem dX0_toldOfPerson_91 : decode M_X0_toldOfPerson.2.1 91 = .ok (.invokevirtual 147, 3) := by decide +kernel
theorem dX0_toldOfPerson_94 : decode M_X0_toldOfPerson.2.1 94 = .ok (.invokevirtual 153, 3) := by decide +kernel
theorem dX0_toldOfPerson_97 : decode M_X0_toldOfPerson.2.1 97 = .ok (.ireturn, 1) := by decide +kernel
theorem dX0_toldOfPerson_98 : decode M_X0_toldOfPerson.2.1 98 = .ok (.iconst (-1), 1) := by decide +kernel
theorem dX0_toldOfPerson_99 : decode M_X0_toldOfPerson.2.1 99 = .ok (.ireturn, 1) := by decide +kernel
theorem hv_X0_147 : a_okV RX0 M_X0_calledBy 147 := ⟨a_in 407 (by decide +kernel) rfl, a_in 408 (by decide +kernel) rfl, a_in 409 (by decide +kernel) rfl⟩
theorem hv_X0_150 : a_okV RX0 M_X0_needTogether 150 := ⟨a_in 411 (by decide +kernel) rfl, a_in 412 (by decide +kernel) rfl, a_in 413 (by decide +kernel) rfl⟩
theorem hv_X0_153 : a_okV RX0 M_X0_workTogether 153 := ⟨a_in 415 (by decide +kernel) rfl, a_in 416 (by decide +kernel) rfl, a_in 417 (by decide +kernel) rfl⟩
def f_X0_toldOfPerson (a0 : Nat) (a1 : Int32) (a2 : Int32) (w : aW) : Option (Int32 × aW) :=
  if a2 = (0 : Int32) then
    (gR 0 w a0 9).bind fun r2 =>
    (gA w r2 a1).bind fun x3 =>
    some (x3, w)
  else
    if a2 = (1 : Int32) then
      (gR 0 w a0 10).bind fun r5 =>
      (gA w r5 a1).bind fun x6 =>
      some (x6, w)
    else
      if a2 = (2 : Int32) then
        (gR 0 w a0 11).bind fun r8 =>
        (gA w r8 a1).bind fun x9 =>
        some (x9, w)
      else
        if a2 = (3 : Int32) then
          (gR 0 w a0 12).bind fun r11 =>
          (gA w r11 a1).bind fun x12 =>
          some (x12, w)
        else
          if a2 = (4 : Int32) then
            cV 0 w a0 (bk (f_X0_calledBy a0 a1 w) fun x15 w14 =>
            some (x15, w14))
          else
            if a2 = (5 : Int32) then
              cV 0 w a0 (bk (f_X0_calledBy a0 a1 w) fun x18 w17 =>
              cV 0 w17 a0 (bk (f_X0_needTogether a0 x18 w17) fun x20 w19 =>
              some (x20, w19)))
            else
              if a2 = (6 : Int32) then
                cV 0 w a0 (bk (f_X0_calledBy a0 a1 w) fun x23 w22 =>
                cV 0 w22 a0 (bk (f_X0_workTogether a0 x23 w22) fun x25 w24 =>
                some (x25, w24)))
              else
                some ((-1 : Int32), w)
theorem s_X0_toldOfPerson (a0 : Nat) (a1 : Int32) (a2 : Int32) (w : aW) : Sp rvI M_X0_toldOfPerson [.ref a0, .int a1, .int a2] w (f_X0_toldOfPerson a0 a1 a2 w) := by
  refine e_entry [some (.ref a0), some (.int a1), some (.int a2)] (by decide +kernel) (Nat.le_of_ble_eq_true rfl) (fun _ => rfl) ?_
  unfold f_X0_toldOfPerson
  refine e_iload_n (pc := 0) dX0_toldOfPerson_0 rfl rfl ?_
  refine e_ite (fun h1 => ?_) (fun h1 => ?_)
  · refine e_tabIn (pc := 1) (v := 0) (j := 0) (tgt := 44) dX0_toldOfPerson_1 h1 rfl (by decide) (by decide) rfl (by decide) ?_
    refine e_aload_n (pc := 44) dX0_toldOfPerson_44 rfl rfl ?_
    refine e_getR (pc := 45) dX0_toldOfPerson_45 hs_X0_40 (fun r2 => ?_)
    refine e_iload_n (pc := 48) dX0_toldOfPerson_48 rfl rfl ?_
    refine e_iald (pc := 49) dX0_toldOfPerson_49 (fun x3 => ?_)
    exact e_iret (pc := 50) dX0_toldOfPerson_50 rfl rfl
  · refine e_ite (fun h4 => ?_) (fun h4 => ?_)
    · refine e_tabIn (pc := 1) (v := 1) (j := 1) (tgt := 51) dX0_toldOfPerson_1 h4 rfl (by decide) (by decide) rfl (by decide) ?_
      refine e_aload_n (pc := 51) dX0_toldOfPerson_51 rfl rfl ?_
      refine e_getR (pc := 52) dX0_toldOfPerson_52 hs_X0_43 (fun r5 => ?_)
      refine e_iload_n (pc := 55) dX0_toldOfPerson_55 rfl rfl ?_
      refine e_iald (pc := 56) dX0_toldOfPerson_56 (fun x6 => ?_)
      exact e_iret (pc := 57) dX0_toldOfPerson_57 rfl rfl
    · refine e_ite (fun h7 => ?_) (fun h7 => ?_)
      · refine e_tabIn (pc := 1) (v := 2) (j := 2) (tgt := 58) dX0_toldOfPerson_1 h7 rfl (by decide) (by decide) rfl (by decide) ?_
        refine e_aload_n (pc := 58) dX0_toldOfPerson_58 rfl rfl ?_
        refine e_getR (pc := 59) dX0_toldOfPerson_59 hs_X0_46 (fun r8 => ?_)
        refine e_iload_n (pc := 62) dX0_toldOfPerson_62 rfl rfl ?_
        refine e_iald (pc := 63) dX0_toldOfPerson_63 (fun x9 => ?_)
        exact e_iret (pc := 64) dX0_toldOfPerson_64 rfl rfl
      · refine e_ite (fun h10 => ?_) (fun h10 => ?_)
        · refine e_tabIn (pc := 1) (v := 3) (j := 3) (tgt := 65) dX0_toldOfPerson_1 h10 rfl (by decide) (by decide) rfl (by decide) ?_
          refine e_aload_n (pc := 65) dX0_toldOfPerson_65 rfl rfl ?_
          refine e_getR (pc := 66) dX0_toldOfPerson_66 hs_X0_49 (fun r11 => ?_)
          refine e_iload_n (pc := 69) dX0_toldOfPerson_69 rfl rfl ?_
          refine e_iald (pc := 70) dX0_toldOfPerson_70 (fun x12 => ?_)
          exact e_iret (pc := 71) dX0_toldOfPerson_71 rfl rfl
        · refine e_ite (fun h13 => ?_) (fun h13 => ?_)
          · refine e_tabIn (pc := 1) (v := 4) (j := 4) (tgt := 72) dX0_toldOfPerson_1 h13 rfl (by decide) (by decide) rfl (by decide) ?_
            refine e_aload_n (pc := 72) dX0_toldOfPerson_72 rfl rfl ?_
            refine e_iload_n (pc := 73) dX0_toldOfPerson_73 rfl rfl ?_
            refine e_callV (pc := 74) (av := [.int a1]) (S := []) (c0 := 0) rfl rfl ok_X0_calledBy ⟨Nat.le_of_ble_eq_true rfl, Nat.le_of_ble_eq_true rfl⟩ hv_X0_147 dX0_toldOfPerson_74 (s_X0_calledBy a0 a1 w) rfl rfl (Nat.le_of_ble_eq_true rfl) (fun x15 w14 => ?_)
            exact e_iret (pc := 77) dX0_toldOfPerson_77 rfl rfl
          · refine e_ite (fun h16 => ?_) (fun h16 => ?_)
            · refine e_tabIn (pc := 1) (v := 5) (j := 5) (tgt := 78) dX0_toldOfPerson_1 h16 rfl (by decide) (by decide) rfl (by decide) ?_
              refine e_aload_n (pc := 78) dX0_toldOfPerson_78 rfl rfl ?_
              refine e_aload_n (pc := 79) dX0_toldOfPerson_79 rfl rfl ?_
              refine e_iload_n (pc := 80) dX0_toldOfPerson_80 rfl rfl ?_
              refine e_callV (pc := 81) (av := [.int a1]) (S := [.ref a0]) (c0 := 0) rfl rfl ok_X0_calledBy ⟨Nat.le_of_ble_eq_true rfl, Nat.le_of_ble_eq_true rfl⟩ hv_X0_147 dX0_toldOfPerson_81 (s_X0_calledBy a0 a1 w) rfl rfl (Nat.le_of_ble_eq_true rfl) (fun x18 w17 => ?_)
              refine e_callV (pc := 84) (av := [.int x18]) (S := []) (c0 := 0) rfl rfl ok_X0_needTogether ⟨Nat.le_of_ble_eq_true rfl, Nat.le_of_ble_eq_true rfl⟩ hv_X0_150 dX0_toldOfPerson_84 (s_X0_needTogether a0 x18 w17) rfl rfl (Nat.le_of_ble_eq_true rfl) (fun x20 w19 => ?_)
              exact e_iret (pc := 87) dX0_toldOfPerson_87 rfl rfl
            · refine e_ite (fun h21 => ?_) (fun h21 => ?_)
              · refine e_tabIn (pc := 1) (v := 6) (j := 6) (tgt := 88) dX0_toldOfPerson_1 h21 rfl (by decide) (by decide) rfl (by decide) ?_
                refine e_aload_n (pc := 88) dX0_toldOfPerson_88 rfl rfl ?_
                refine e_aload_n (pc := 89) dX0_toldOfPerson_89 rfl rfl ?_
                refine e_iload_n (pc := 90) dX0_toldOfPerson_90 rfl rfl ?_
                refine e_callV (pc := 91) (av := [.int a1]) (S := [.ref a0]) (c0 := 0) rfl rfl ok_X0_calledBy ⟨Nat.le_of_ble_eq_true rfl, Nat.le_of_ble_eq_true rfl⟩ hv_X0_147 dX0_toldOfPerson_91 (s_X0_calledBy a0 a1 w) rfl rfl (Nat.le_of_ble_eq_true rfl) (fun x23 w22 => ?_)
                refine e_callV (pc := 94) (av := [.int x23]) (S := []) (c0 := 0) rfl rfl ok_X0_workTogether ⟨Nat.le_of_ble_eq_true rfl, Nat.le_of_ble_eq_true rfl⟩ hv_X0_153 dX0_toldOfPerson_94 (s_X0_workTogether a0 x23 w22) rfl rfl (Nat.le_of_ble_eq_true rfl) (fun x25 w24 => ?_)
                exact e_iret (pc := 97) dX0_toldOfPerson_97 rfl rfl
              · refine e_tabOut (pc := 1) (tgt := 98) dX0_toldOfPerson_1 (by have z0 := lv_neT h1 (show (0 : Int32).toInt = 0 from rfl); have z1 := lv_neT h4 (show (1 : Int32).toInt = 1 from rfl); have z2 := lv_neT h7 (show (2 : Int32).toInt = 2 from rfl); have z3 := lv_neT h10 (show (3 : Int32).toInt = 3 from rfl); have z4 := lv_neT h13 (show (4 : Int32).toInt = 4 from rfl); have z5 := lv_neT h16 (show (5 : Int32).toInt = 5 from rfl); have z6 := lv_neT h21 (show (6 : Int32).toInt = 6 from rfl); omega) (by decide) ?_
                refine e_iconst (pc := 98) dX0_toldOfPerson_98 kc_m1 ?_
                exact e_iret (pc := 99) dX0_toldOfPerson_99 rfl rfl
def M_X0_calledByAnybody : aM := (yX0_calledByAnybody, cX0_calledByAnybody, 3, (some .int), 0, 0)
theorem ok_X0_calledByAnybody : a_okM M_X0_calledByAnybody 0 := ⟨⟨by decide +kernel, by decide +kernel⟩, by decide +kernel, a_in 500 (by decide +kernel) rfl, a_in 77 (by decide +kernel) rfl⟩
theorem dX0_calledByAnybody_0 : decode M_X0_calledByAnybody.2.1 0 = .ok (.iconst 0, 1) := by decide +kernel
theorem dX0_calledByAnybody_1 : decode M_X0_calledByAnybody.2.1 1 = .ok (.istore_n 1, 1) := by decide +kernel
theorem dX0_calledByAnybody_2 : decode M_X0_calledByAnybody.2.1 2 = .ok (.iconst 0, 1) := by decide +kernel
theorem dX0_calledByAnybody_3 : decode M_X0_calledByAnybody.2.1 3 = .ok (.istore_n 2, 1) := by decide +kernel
theorem dX0_calledByAnybody_4 : decode M_X0_calledByAnybody.2.1 4 = .ok (.iload_n 2, 1) := by decide +kernel
theorem dX0_calledByAnybody_5 : decode M_X0_calledByAnybody.2.1 5 = .ok (.bipush 9, 2) := by decide +kernel
theorem dX0_calledByAnybody_7 : decode M_X0_calledByAnybody.2.1 7 = .ok (.if_icmp .ge 26, 3) := by decide +kernel
theorem dX0_calledByAnybody_10 : decode M_X0_calledByAnybody.2.1 10 = .ok (.aload_n 0, 1) := by decide +kernel
theorem dX0_calledByAnybody_11 : decode M_X0_calledByAnybody.2.1 11 = .ok (.getfield 37, 3) := by decide +kernel
theorem dX0_calledByAnybody_14 : decode M_X0_calledByAnybody.2.1 14 = .ok (.iload_n 2, 1) := by decide +kernel
theorem dX0_calledByAnybody_15 : decode M_X0_calledByAnybody.2.1 15 = .ok (.iaload, 1) := by decide +kernel
theorem dX0_calledByAnybody_16 : decode M_X0_calledByAnybody.2.1 16 = .ok (.bipush (-4), 2) := by decide +kernel
theorem dX0_calledByAnybody_18 : decode M_X0_calledByAnybody.2.1 18 = .ok (.if_icmp .eq 9, 3) := by decide +kernel
theorem dX0_calledByAnybody_21 : decode M_X0_calledByAnybody.2.1 21 = .ok (.iload_n 1, 1) := by decide +kernel
theorem dX0_calledByAnybody_22 : decode M_X0_calledByAnybody.2.1 22 = .ok (.iconst 1, 1) := by decide +kernel
theorem dX0_calledByAnybody_23 : decode M_X0_calledByAnybody.2.1 23 = .ok (.iload_n 2, 1) := by decide +kernel
theorem dX0_calledByAnybody_24 : decode M_X0_calledByAnybody.2.1 24 = .ok (.ishl, 1) := by decide +kernel
theorem dX0_calledByAnybody_25 : decode M_X0_calledByAnybody.2.1 25 = .ok (.ior, 1) := by decide +kernel
theorem dX0_calledByAnybody_26 : decode M_X0_calledByAnybody.2.1 26 = .ok (.istore_n 1, 1) := by decide +kernel
theorem dX0_calledByAnybody_27 : decode M_X0_calledByAnybody.2.1 27 = .ok (.iinc 2 1, 3) := by decide +kernel
theorem dX0_calledByAnybody_30 : decode M_X0_calledByAnybody.2.1 30 = .ok (.goto (-26), 3) := by decide +kernel
theorem dX0_calledByAnybody_33 : decode M_X0_calledByAnybody.2.1 33 = .ok (.iload_n 1, 1) := by decide +kernel
theorem dX0_calledByAnybody_34 : decode M_X0_calledByAnybody.2.1 34 = .ok (.ireturn, 1) := by decide +kernel
def c_X0_calledByAnybody_4 (a0 : Nat) (k4 : Int32 → Int32 → aW → Option (Int32 × aW)) (b1 : Int32) (b2 : Int32) (w : aW) : Option (Int32 × aW) :=
  if (9 : Int32) ≤ b2 then
    some (b1, w)
  else
    (gR 0 w a0 8).bind fun r1 =>
    (gA w r1 b2).bind fun x2 =>
    if x2 = (-4 : Int32) then
      k4 b1 (b2 + 1) w
    else
      k4 (b1 ||| ((1 : Int32) <<< (b2 &&& 31))) (b2 + 1) w
theorem t_X0_calledByAnybody_4 (a0 : Nat) (k4 : Int32 → Int32 → aW → Option (Int32 × aW)) (hk4 : ∀ (b1 : Int32) (b2 : Int32) (w : aW), Ev rvI M_X0_calledByAnybody 4 [some (.ref a0), some (.int b1), some (.int b2)] [] w (k4 b1 b2 w)) (b1 : Int32) (b2 : Int32) (w : aW) : Ev rvI M_X0_calledByAnybody 4 [some (.ref a0), some (.int b1), some (.int b2)] [] w (c_X0_calledByAnybody_4 a0 k4 b1 b2 w) := by
  unfold c_X0_calledByAnybody_4
  refine e_iload_n (pc := 4) dX0_calledByAnybody_4 rfl rfl ?_
  refine e_bipush (pc := 5) dX0_calledByAnybody_5 kb_9 ?_
  refine e_icmp_ge (pc := 7) (tgt := 33) dX0_calledByAnybody_7 (by decide) (fun _ => ?_) (fun _ => ?_)
  · refine e_iload_n (pc := 33) dX0_calledByAnybody_33 rfl rfl ?_
    exact e_iret (pc := 34) dX0_calledByAnybody_34 rfl rfl
  · refine e_aload_n (pc := 10) dX0_calledByAnybody_10 rfl rfl ?_
    refine e_getR (pc := 11) dX0_calledByAnybody_11 hs_X0_37 (fun r1 => ?_)
    refine e_iload_n (pc := 14) dX0_calledByAnybody_14 rfl rfl ?_
    refine e_iald (pc := 15) dX0_calledByAnybody_15 (fun x2 => ?_)
    refine e_bipush (pc := 16) dX0_calledByAnybody_16 kb_m4 ?_
    refine e_icmp_eq (pc := 18) (tgt := 27) dX0_calledByAnybody_18 (by decide) (fun _ => ?_) (fun _ => ?_)
    · refine e_iinc (L' := [some (.ref a0), some (.int b1), some (.int (b2 + 1))]) (pc := 27) (v := 1) dX0_calledByAnybody_27 (by decide) rfl kc_1 rfl ?_
      refine e_goto (pc := 30) (tgt := 4) dX0_calledByAnybody_30 (by decide) ?_
      exact hk4 b1 (b2 + 1) w
    · refine e_iload_n (pc := 21) dX0_calledByAnybody_21 rfl rfl ?_
      refine e_iconst (pc := 22) dX0_calledByAnybody_22 kc_1 ?_
      refine e_iload_n (pc := 23) dX0_calledByAnybody_23 rfl rfl ?_
      refine e_ishl (pc := 24) dX0_calledByAnybody_24 ?_
      refine e_ior (pc := 25) dX0_calledByAnybody_25 ?_
      refine e_istore_n (L' := [some (.ref a0), some (.int (b1 ||| ((1 : Int32) <<< (b2 &&& 31)))), some (.int b2)]) (pc := 26) dX0_calledByAnybody_26 rfl (by decide) rfl ?_
      refine e_iinc (L' := [some (.ref a0), some (.int (b1 ||| ((1 : Int32) <<< (b2 &&& 31)))), some (.int (b2 + 1))]) (pc := 27) (v := 1) dX0_calledByAnybody_27 (by decide) rfl kc_1 rfl ?_
      refine e_goto (pc := 30) (tgt := 4) dX0_calledByAnybody_30 (by decide) ?_
      exact hk4 (b1 ||| ((1 : Int32) <<< (b2 &&& 31))) (b2 + 1) w
def f_X0_calledByAnybody (a0 : Nat) (w : aW) : Option (Int32 × aW) :=
  loop3 (c_X0_calledByAnybody_4 a0) a_fuel (0 : Int32) (0 : Int32) w
theorem s_X0_calledByAnybody (a0 : Nat) (w : aW) : Sp rvI M_X0_calledByAnybody [.ref a0] w (f_X0_calledByAnybody a0 w) := by
  refine e_entry [some (.ref a0), none, none] (by decide +kernel) (Nat.le_of_ble_eq_true rfl) (fun _ => rfl) ?_
  unfold f_X0_calledByAnybody
  refine e_iconst (pc := 0) dX0_calledByAnybody_0 kc_0 ?_
  refine e_istore_n (L' := [some (.ref a0), some (.int (0 : Int32)), none]) (pc := 1) dX0_calledByAnybody_1 rfl (by decide) rfl ?_
  refine e_iconst (pc := 2) dX0_calledByAnybody_2 kc_0 ?_
  refine e_istore_n (L' := [some (.ref a0), some (.int (0 : Int32)), some (.int (0 : Int32))]) (pc := 3) dX0_calledByAnybody_3 rfl (by decide) rfl ?_
  exact e_loop3 (L := fun b1 b2 => [some (.ref a0), some (.int b1), some (.int b2)]) (S := fun b1 b2 => []) (fun kf hkf => t_X0_calledByAnybody_4 a0  kf hkf) _ (0 : Int32) (0 : Int32) w
def M_X0_freeOnes : aM := (yX0_freeOnes, cX0_freeOnes, 1, (some .int), 1, 22)
theorem ok_X0_freeOnes : a_okM M_X0_freeOnes 0 := ⟨⟨by decide +kernel, by decide +kernel⟩, by decide +kernel, a_in 512 (by decide +kernel) rfl, a_in 77 (by decide +kernel) rfl⟩
theorem dX0_freeOnes_0 : decode M_X0_freeOnes.2.1 0 = .ok (.aload_n 0, 1) := by decide +kernel
theorem dX0_freeOnes_1 : decode M_X0_freeOnes.2.1 1 = .ok (.getfield 18, 3) := by decide +kernel
theorem dX0_freeOnes_4 : decode M_X0_freeOnes.2.1 4 = .ok (.aload_n 0, 1) := by decide +kernel
theorem dX0_freeOnes_5 : decode M_X0_freeOnes.2.1 5 = .ok (.invokevirtual 156, 3) := by decide +kernel
theorem dX0_freeOnes_8 : decode M_X0_freeOnes.2.1 8 = .ok (.iconst (-1), 1) := by decide +kernel
theorem dX0_freeOnes_9 : decode M_X0_freeOnes.2.1 9 = .ok (.ixor, 1) := by decide +kernel
theorem dX0_freeOnes_10 : decode M_X0_freeOnes.2.1 10 = .ok (.iand, 1) := by decide +kernel
theorem dX0_freeOnes_11 : decode M_X0_freeOnes.2.1 11 = .ok (.ireturn, 1) := by decide +kernel
theorem hv_X0_156 : a_okV RX0 M_X0_calledByAnybody 156 := ⟨a_in 513 (by decide +kernel) rfl, a_in 498 (by decide +kernel) rfl, a_in 499 (by decide +kernel) rfl⟩
def f_X0_freeOnes (a0 : Nat) (w : aW) : Option (Int32 × aW) :=
  (gI 0 w a0 2).bind fun x1 =>
  cV 0 w a0 (bk (f_X0_calledByAnybody a0 w) fun x3 w2 =>
  some ((x1 &&& (x3 ^^^ (-1 : Int32))), w2))
theorem s_X0_freeOnes (a0 : Nat) (w : aW) : Sp rvI M_X0_freeOnes [.ref a0] w (f_X0_freeOnes a0 w) := by
  refine e_entry [some (.ref a0)] (by decide +kernel) (Nat.le_of_ble_eq_true rfl) (fun _ => rfl) ?_
  unfold f_X0_freeOnes
  refine e_aload_n (pc := 0) dX0_freeOnes_0 rfl rfl ?_
  refine e_getI (pc := 1) dX0_freeOnes_1 hs_X0_18 (fun x1 => ?_)
  refine e_aload_n (pc := 4) dX0_freeOnes_4 rfl rfl ?_
  refine e_callV (pc := 5) (av := []) (S := [.int x1]) (c0 := 0) rfl rfl ok_X0_calledByAnybody ⟨Nat.le_of_ble_eq_true rfl, Nat.le_of_ble_eq_true rfl⟩ hv_X0_156 dX0_freeOnes_5 (s_X0_calledByAnybody a0 w) rfl rfl (Nat.le_of_ble_eq_true rfl) (fun x3 w2 => ?_)
  refine e_iconst (pc := 8) dX0_freeOnes_8 kc_m1 ?_
  refine e_ixor (pc := 9) dX0_freeOnes_9 ?_
  refine e_iand (pc := 10) dX0_freeOnes_10 ?_
  exact e_iret (pc := 11) dX0_freeOnes_11 rfl rfl
def M_X0_meansOfAll : aM := (yX0_meansOfAll, cX0_meansOfAll, 3, (some .int), 0, 0)
theorem ok_X0_meansOfAll : a_okM M_X0_meansOfAll 0 := ⟨⟨by decide +kernel, by decide +kernel⟩, by decide +kernel, a_in 649 (by decide +kernel) rfl, a_in 77 (by decide +kernel) rfl⟩
theorem dX0_meansOfAll_0 : decode M_X0_meansOfAll.2.1 0 = .ok (.iconst 0, 1) := by decide +kernel
theorem dX0_meansOfAll_1 : decode M_X0_meansOfAll.2.1 1 = .ok (.istore_n 1, 1) := by decide +kernel
theorem dX0_meansOfAll_2 : decode M_X0_meansOfAll.2.1 2 = .ok (.iconst 0, 1) := by decide +kernel
theorem dX0_meansOfAll_3 : decode M_X0_meansOfAll.2.1 3 = .ok (.istore_n 2, 1) := by decide +kernel
theorem dX0_meansOfAll_4 : decode M_X0_meansOfAll.2.1 4 = .ok (.iload_n 2, 1) := by decide +kernel
theorem dX0_meansOfAll_5 : decode M_X0_meansOfAll.2.1 5 = .ok (.iconst 5, 1) := by decide +kernel
theorem dX0_meansOfAll_6 : decode M_X0_meansOfAll.2.1 6 = .ok (.if_icmp .ge 18, 3) := by decide +kernel
theorem dX0_meansOfAll_9 : decode M_X0_meansOfAll.2.1 9 = .ok (.iload_n 1, 1) := by decide +kernel
theorem dX0_meansOfAll_10 : decode M_X0_meansOfAll.2.1 10 = .ok (.aload_n 0, 1) := by decide +kernel
theorem dX0_meansOfAll_11 : decode M_X0_meansOfAll.2.1 11 = .ok (.getfield 40, 3) := by decide +kernel
theorem dX0_meansOfAll_14 : decode M_X0_meansOfAll.2.1 14 = .ok (.iload_n 2, 1) := by decide +kernel
theorem dX0_meansOfAll_15 : decode M_X0_meansOfAll.2.1 15 = .ok (.iaload, 1) := by decide +kernel
theorem dX0_meansOfAll_16 : decode M_X0_meansOfAll.2.1 16 = .ok (.iadd, 1) := by decide +kernel
theorem dX0_meansOfAll_17 : decode M_X0_meansOfAll.2.1 17 = .ok (.istore_n 1, 1) := by decide +kernel
theorem dX0_meansOfAll_18 : decode M_X0_meansOfAll.2.1 18 = .ok (.iinc 2 1, 3) := by decide +kernel
theorem dX0_meansOfAll_21 : decode M_X0_meansOfAll.2.1 21 = .ok (.goto (-17), 3) := by decide +kernel
theorem dX0_meansOfAll_24 : decode M_X0_meansOfAll.2.1 24 = .ok (.iload_n 1, 1) := by decide +kernel
theorem dX0_meansOfAll_25 : decode M_X0_meansOfAll.2.1 25 = .ok (.ireturn, 1) := by decide +kernel
def c_X0_meansOfAll_4 (a0 : Nat) (k4 : Int32 → Int32 → aW → Option (Int32 × aW)) (b1 : Int32) (b2 : Int32) (w : aW) : Option (Int32 × aW) :=
  if (5 : Int32) ≤ b2 then
    some (b1, w)
  else
    (gR 0 w a0 9).bind fun r1 =>
    (gA w r1 b2).bind fun x2 =>
    k4 (b1 + x2) (b2 + 1) w
theorem t_X0_meansOfAll_4 (a0 : Nat) (k4 : Int32 → Int32 → aW → Option (Int32 × aW)) (hk4 : ∀ (b1 : Int32) (b2 : Int32) (w : aW), Ev rvI M_X0_meansOfAll 4 [some (.ref a0), some (.int b1), some (.int b2)] [] w (k4 b1 b2 w)) (b1 : Int32) (b2 : Int32) (w : aW) : Ev rvI M_X0_meansOfAll 4 [some (.ref a0), some (.int b1), some (.int b2)] [] w (c_X0_meansOfAll_4 a0 k4 b1 b2 w) := by
  unfold c_X0_meansOfAll_4
  refine e_iload_n (pc := 4) dX0_meansOfAll_4 rfl rfl ?_
  refine e_iconst (pc := 5) dX0_meansOfAll_5 kc_5 ?_
  refine e_icmp_ge (pc := 6) (tgt := 24) dX0_meansOfAll_6 (by decide) (fun _ => ?_) (fun _ => ?_)
  · refine e_iload_n (pc := 24) dX0_meansOfAll_24 rfl rfl ?_
    exact e_iret (pc := 25) dX0_meansOfAll_25 rfl rfl
  · refine e_iload_n (pc := 9) dX0_meansOfAll_9 rfl rfl ?_
    refine e_aload_n (pc := 10) dX0_meansOfAll_10 rfl rfl ?_
    refine e_getR (pc := 11) dX0_meansOfAll_11 hs_X0_40 (fun r1 => ?_)
    refine e_iload_n (pc := 14) dX0_meansOfAll_14 rfl rfl ?_
    refine e_iald (pc := 15) dX0_meansOfAll_15 (fun x2 => ?_)
    refine e_iadd (pc := 16) dX0_meansOfAll_16 ?_
    refine e_istore_n (L' := [some (.ref a0), some (.int (b1 + x2)), some (.int b2)]) (pc := 17) dX0_meansOfAll_17 rfl (by decide) rfl ?_
    refine e_iinc (L' := [some (.ref a0), some (.int (b1 + x2)), some (.int (b2 + 1))]) (pc := 18) (v := 1) dX0_meansOfAll_18 (by decide) rfl kc_1 rfl ?_
    refine e_goto (pc := 21) (tgt := 4) dX0_meansOfAll_21 (by decide) ?_
    exact hk4 (b1 + x2) (b2 + 1) w
def f_X0_meansOfAll (a0 : Nat) (w : aW) : Option (Int32 × aW) :=
  loop3 (c_X0_meansOfAll_4 a0) a_fuel (0 : Int32) (0 : Int32) w
theorem s_X0_meansOfAll (a0 : Nat) (w : aW) : Sp rvI M_X0_meansOfAll [.ref a0] w (f_X0_meansOfAll a0 w) := by
  refine e_entry [some (.ref a0), none, none] (by decide +kernel) (Nat.le_of_ble_eq_true rfl) (fun _ => rfl) ?_
  unfold f_X0_meansOfAll
  refine e_iconst (pc := 0) dX0_meansOfAll_0 kc_0 ?_
  refine e_istore_n (L' := [some (.ref a0), some (.int (0 : Int32)), none]) (pc := 1) dX0_meansOfAll_1 rfl (by decide) rfl ?_
  refine e_iconst (pc := 2) dX0_meansOfAll_2 kc_0 ?_
  refine e_istore_n (L' := [some (.ref a0), some (.int (0 : Int32)), some (.int (0 : Int32))]) (pc := 3) dX0_meansOfAll_3 rfl (by decide) rfl ?_
  exact e_loop3 (L := fun b1 b2 => [some (.ref a0), some (.int b1), some (.int b2)]) (S := fun b1 b2 => []) (fun kf hkf => t_X0_meansOfAll_4 a0  kf hkf) _ (0 : Int32) (0 : Int32) w
def M_X0_griefOfAll : aM := (yX0_griefOfAll, cX0_griefOfAll, 3, (some .int), 0, 0)
theorem ok_X0_griefOfAll : a_okM M_X0_griefOfAll 0 := ⟨⟨by decide +kernel, by decide +kernel⟩, by decide +kernel, a_in 671 (by decide +kernel) rfl, a_in 77 (by decide +kernel) rfl⟩
theorem dX0_griefOfAll_0 : decode M_X0_griefOfAll.2.1 0 = .ok (.iconst 0, 1) := by decide +kernel
theorem dX0_griefOfAll_1 : decode M_X0_griefOfAll.2.1 1 = .ok (.istore_n 1, 1) := by decide +kernel
theorem dX0_griefOfAll_2 : decode M_X0_griefOfAll.2.1 2 = .ok (.iconst 0, 1) := by decide +kernel
theorem dX0_griefOfAll_3 : decode M_X0_griefOfAll.2.1 3 = .ok (.istore_n 2, 1) := by decide +kernel
theorem dX0_griefOfAll_4 : decode M_X0_griefOfAll.2.1 4 = .ok (.iload_n 2, 1) := by decide +kernel
theorem dX0_griefOfAll_5 : decode M_X0_griefOfAll.2.1 5 = .ok (.iconst 5, 1) := by decide +kernel
theorem dX0_griefOfAll_6 : decode M_X0_griefOfAll.2.1 6 = .ok (.if_icmp .ge 18, 3) := by decide +kernel
theorem dX0_griefOfAll_9 : decode M_X0_griefOfAll.2.1 9 = .ok (.iload_n 1, 1) := by decide +kernel
theorem dX0_griefOfAll_10 : decode M_X0_griefOfAll.2.1 10 = .ok (.aload_n 0, 1) := by decide +kernel
theorem dX0_griefOfAll_11 : decode M_X0_griefOfAll.2.1 11 = .ok (.getfield 49, 3) := by decide +kernel
theorem dX0_griefOfAll_14 : decode M_X0_griefOfAll.2.1 14 = .ok (.iload_n 2, 1) := by decide +kernel
theorem dX0_griefOfAll_15 : decode M_X0_griefOfAll.2.1 15 = .ok (.iaload, 1) := by decide +kernel
theorem dX0_griefOfAll_16 : decode M_X0_griefOfAll.2.1 16 = .ok (.iadd, 1) := by decide +kernel
theorem dX0_griefOfAll_17 : decode M_X0_griefOfAll.2.1 17 = .ok (.istore_n 1, 1) := by decide +kernel
theorem dX0_griefOfAll_18 : decode M_X0_griefOfAll.2.1 18 = .ok (.iinc 2 1, 3) := by decide +kernel
theorem dX0_griefOfAll_21 : decode M_X0_griefOfAll.2.1 21 = .ok (.goto (-17), 3) := by decide +kernel
theorem dX0_griefOfAll_24 : decode M_X0_griefOfAll.2.1 24 = .ok (.iload_n 1, 1) := by decide +kernel
theorem dX0_griefOfAll_25 : decode M_X0_griefOfAll.2.1 25 = .ok (.ireturn, 1) := by decide +kernel
def c_X0_griefOfAll_4 (a0 : Nat) (k4 : Int32 → Int32 → aW → Option (Int32 × aW)) (b1 : Int32) (b2 : Int32) (w : aW) : Option (Int32 × aW) :=
  if (5 : Int32) ≤ b2 then
    some (b1, w)
  else
    (gR 0 w a0 12).bind fun r1 =>
    (gA w r1 b2).bind fun x2 =>
    k4 (b1 + x2) (b2 + 1) w
theorem t_X0_griefOfAll_4 (a0 : Nat) (k4 : Int32 → Int32 → aW → Option (Int32 × aW)) (hk4 : ∀ (b1 : Int32) (b2 : Int32) (w : aW), Ev rvI M_X0_griefOfAll 4 [some (.ref a0), some (.int b1), some (.int b2)] [] w (k4 b1 b2 w)) (b1 : Int32) (b2 : Int32) (w : aW) : Ev rvI M_X0_griefOfAll 4 [some (.ref a0), some (.int b1), some (.int b2)] [] w (c_X0_griefOfAll_4 a0 k4 b1 b2 w) := by
  unfold c_X0_griefOfAll_4
  refine e_iload_n (pc := 4) dX0_griefOfAll_4 rfl rfl ?_
  refine e_iconst (pc := 5) dX0_griefOfAll_5 kc_5 ?_
  refine e_icmp_ge (pc := 6) (tgt := 24) dX0_griefOfAll_6 (by decide) (fun _ => ?_) (fun _ => ?_)
  · refine e_iload_n (pc := 24) dX0_griefOfAll_24 rfl rfl ?_
    exact e_iret (pc := 25) dX0_griefOfAll_25 rfl rfl
  · refine e_iload_n (pc := 9) dX0_griefOfAll_9 rfl rfl ?_
    refine e_aload_n (pc := 10) dX0_griefOfAll_10 rfl rfl ?_
    refine e_getR (pc := 11) dX0_griefOfAll_11 hs_X0_49 (fun r1 => ?_)
    refine e_iload_n (pc := 14) dX0_griefOfAll_14 rfl rfl ?_
    refine e_iald (pc := 15) dX0_griefOfAll_15 (fun x2 => ?_)
    refine e_iadd (pc := 16) dX0_griefOfAll_16 ?_
    refine e_istore_n (L' := [some (.ref a0), some (.int (b1 + x2)), some (.int b2)]) (pc := 17) dX0_griefOfAll_17 rfl (by decide) rfl ?_
    refine e_iinc (L' := [some (.ref a0), some (.int (b1 + x2)), some (.int (b2 + 1))]) (pc := 18) (v := 1) dX0_griefOfAll_18 (by decide) rfl kc_1 rfl ?_
    refine e_goto (pc := 21) (tgt := 4) dX0_griefOfAll_21 (by decide) ?_
    exact hk4 (b1 + x2) (b2 + 1) w
def f_X0_griefOfAll (a0 : Nat) (w : aW) : Option (Int32 × aW) :=
  loop3 (c_X0_griefOfAll_4 a0) a_fuel (0 : Int32) (0 : Int32) w
theorem s_X0_griefOfAll (a0 : Nat) (w : aW) : Sp rvI M_X0_griefOfAll [.ref a0] w (f_X0_griefOfAll a0 w) := by
  refine e_entry [some (.ref a0), none, none] (by decide +kernel) (Nat.le_of_ble_eq_true rfl) (fun _ => rfl) ?_
  unfold f_X0_griefOfAll
  refine e_iconst (pc := 0) dX0_griefOfAll_0 kc_0 ?_
  refine e_istore_n (L' := [some (.ref a0), some (.int (0 : Int32)), none]) (pc := 1) dX0_griefOfAll_1 rfl (by decide) rfl ?_
  refine e_iconst (pc := 2) dX0_griefOfAll_2 kc_0 ?_
  refine e_istore_n (L' := [some (.ref a0), some (.int (0 : Int32)), some (.int (0 : Int32))]) (pc := 3) dX0_griefOfAll_3 rfl (by decide) rfl ?_
  exact e_loop3 (L := fun b1 b2 => [some (.ref a0), some (.int b1), some (.int b2)]) (S := fun b1 b2 => []) (fun kf hkf => t_X0_griefOfAll_4 a0  kf hkf) _ (0 : Int32) (0 : Int32) w
def M_X0_loudest : aM := (yX0_loudest, cX0_loudest, 5, (some .int), 1, 23)
theorem ok_X0_loudest : a_okM M_X0_loudest 0 := ⟨⟨by decide +kernel, by decide +kernel⟩, by decide +kernel, a_in 565 (by decide +kernel) rfl, a_in 77 (by decide +kernel) rfl⟩
theorem dX0_loudest_0 : decode M_X0_loudest.2.1 0 = .ok (.iconst 0, 1) := by decide +kernel
theorem dX0_loudest_1 : decode M_X0_loudest.2.1 1 = .ok (.istore_n 1, 1) := by decide +kernel
theorem dX0_loudest_2 : decode M_X0_loudest.2.1 2 = .ok (.iconst (-1), 1) := by decide +kernel
theorem dX0_loudest_3 : decode M_X0_loudest.2.1 3 = .ok (.istore_n 2, 1) := by decide +kernel
theorem dX0_loudest_4 : decode M_X0_loudest.2.1 4 = .ok (.iconst 0, 1) := by decide +kernel
theorem dX0_loudest_5 : decode M_X0_loudest.2.1 5 = .ok (.istore_n 3, 1) := by decide +kernel
theorem dX0_loudest_6 : decode M_X0_loudest.2.1 6 = .ok (.iload_n 3, 1) := by decide +kernel
theorem dX0_loudest_7 : decode M_X0_loudest.2.1 7 = .ok (.iconst 5, 1) := by decide +kernel
theorem dX0_loudest_8 : decode M_X0_loudest.2.1 8 = .ok (.if_icmp .ge 30, 3) := by decide +kernel
theorem dX0_loudest_11 : decode M_X0_loudest.2.1 11 = .ok (.aload_n 0, 1) := by decide +kernel
theorem dX0_loudest_12 : decode M_X0_loudest.2.1 12 = .ok (.iload_n 3, 1) := by decide +kernel
theorem dX0_loudest_13 : decode M_X0_loudest.2.1 13 = .ok (.invokevirtual 147, 3) := by decide +kernel
theorem dX0_loudest_16 : decode M_X0_loudest.2.1 16 = .ok (.invokestatic 85, 3) := by decide +kernel
theorem dX0_loudest_19 : decode M_X0_loudest.2.1 19 = .ok (.istore 4, 2) := by decide +kernel
theorem dX0_loudest_21 : decode M_X0_loudest.2.1 21 = .ok (.iload 4, 2) := by decide +kernel
theorem dX0_loudest_23 : decode M_X0_loudest.2.1 23 = .ok (.iload_n 2, 1) := by decide +kernel
theorem dX0_loudest_24 : decode M_X0_loudest.2.1 24 = .ok (.if_icmp .le 8, 3) := by decide +kernel
theorem dX0_loudest_27 : decode M_X0_loudest.2.1 27 = .ok (.iload 4, 2) := by decide +kernel
theorem dX0_loudest_29 : decode M_X0_loudest.2.1 29 = .ok (.istore_n 2, 1) := by decide +kernel
theorem dX0_loudest_30 : decode M_X0_loudest.2.1 30 = .ok (.iload_n 3, 1) := by decide +kernel
theorem dX0_loudest_31 : decode M_X0_loudest.2.1 31 = .ok (.istore_n 1, 1) := by decide +kernel
theorem dX0_loudest_32 : decode M_X0_loudest.2.1 32 = .ok (.iinc 3 1, 3) := by decide +kernel
theorem dX0_loudest_35 : decode M_X0_loudest.2.1 35 = .ok (.goto (-29), 3) := by decide +kernel
theorem dX0_loudest_38 : decode M_X0_loudest.2.1 38 = .ok (.iload_n 1, 1) := by decide +kernel
theorem dX0_loudest_39 : decode M_X0_loudest.2.1 39 = .ok (.ireturn, 1) := by decide +kernel
def c_X0_loudest_6 (a0 : Nat) (k6 : Int32 → Int32 → Int32 → aW → Option (Int32 × aW)) (b1 : Int32) (b2 : Int32) (b3 : Int32) (w : aW) : Option (Int32 × aW) :=
  if (5 : Int32) ≤ b3 then
    some (b1, w)
  else
    cV 0 w a0 (bk (f_X0_calledBy a0 b3 w) fun x2 w1 =>
    bk (f_J6_bitCount_0f7a4 x2 w1) fun x4 w3 =>
    if x4 ≤ b2 then
      k6 b1 b2 (b3 + 1) w3
    else
      k6 b3 x4 (b3 + 1) w3)
theorem t_X0_loudest_6 (a0 : Nat) (k6 : Int32 → Int32 → Int32 → aW → Option (Int32 × aW)) (hk6 : ∀ (b1 : Int32) (b2 : Int32) (b3 : Int32) (w : aW), Ev rvI M_X0_loudest 6 [some (.ref a0), some (.int b1), some (.int b2), some (.int b3), none] [] w (k6 b1 b2 b3 w)) (b1 : Int32) (b2 : Int32) (b3 : Int32) (w : aW) : Ev rvI M_X0_loudest 6 [some (.ref a0), some (.int b1), some (.int b2), some (.int b3), none] [] w (c_X0_loudest_6 a0 k6 b1 b2 b3 w) := by
  unfold c_X0_loudest_6
  refine e_iload_n (pc := 6) dX0_loudest_6 rfl rfl ?_
  refine e_iconst (pc := 7) dX0_loudest_7 kc_5 ?_
  refine e_icmp_ge (pc := 8) (tgt := 38) dX0_loudest_8 (by decide) (fun _ => ?_) (fun _ => ?_)
  · refine e_iload_n (pc := 38) dX0_loudest_38 rfl rfl ?_
    exact e_iret (pc := 39) dX0_loudest_39 rfl rfl
  · refine e_aload_n (pc := 11) dX0_loudest_11 rfl rfl ?_
    refine e_iload_n (pc := 12) dX0_loudest_12 rfl rfl ?_
    refine e_callV (pc := 13) (av := [.int b3]) (S := []) (c0 := 0) rfl rfl ok_X0_calledBy ⟨Nat.le_of_ble_eq_true rfl, Nat.le_of_ble_eq_true rfl⟩ hv_X0_147 dX0_loudest_13 (s_X0_calledBy a0 b3 w) rfl rfl (Nat.le_of_ble_eq_true rfl) (fun x2 w1 => ?_)
    refine e_callS (pc := 16) (av := [.int x2]) (S := []) ok_J6_bitCount_0f7a4 ⟨Nat.le_of_ble_eq_true rfl, Nat.le_of_ble_eq_true rfl⟩ ht_X0_85 dX0_loudest_16 (s_J6_bitCount_0f7a4 x2 w1) rfl rfl (Nat.le_of_ble_eq_true rfl) (fun x4 w3 => ?_)
    refine e_istore (L' := [some (.ref a0), some (.int b1), some (.int b2), some (.int b3), some (.int x4)]) (pc := 19) dX0_loudest_19 (by decide) rfl ?_
    refine e_iload (pc := 21) dX0_loudest_21 rfl ?_
    refine e_iload_n (pc := 23) dX0_loudest_23 rfl rfl ?_
    refine e_icmp_le (pc := 24) (tgt := 32) dX0_loudest_24 (by decide) (fun _ => ?_) (fun _ => ?_)
    · refine e_iinc (L' := [some (.ref a0), some (.int b1), some (.int b2), some (.int (b3 + 1)), some (.int x4)]) (pc := 32) (v := 1) dX0_loudest_32 (by decide) rfl kc_1 rfl ?_
      refine e_goto (pc := 35) (tgt := 6) dX0_loudest_35 (by decide) ?_
      refine e_forget (L2 := [some (.ref a0), some (.int b1), some (.int b2), some (.int (b3 + 1)), none]) (And.intro rfl (And.intro rfl (And.intro rfl (And.intro rfl trivial)))) ?_
      exact hk6 b1 b2 (b3 + 1) w3
    · refine e_iload (pc := 27) dX0_loudest_27 rfl ?_
      refine e_istore_n (L' := [some (.ref a0), some (.int b1), some (.int x4), some (.int b3), some (.int x4)]) (pc := 29) dX0_loudest_29 rfl (by decide) rfl ?_
      refine e_iload_n (pc := 30) dX0_loudest_30 rfl rfl ?_
      refine e_istore_n (L' := [some (.ref a0), some (.int b3), some (.int x4), some (.int b3), some (.int x4)]) (pc := 31) dX0_loudest_31 rfl (by decide) rfl ?_
      refine e_iinc (L' := [some (.ref a0), some (.int b3), some (.int x4), some (.int (b3 + 1)), some (.int x4)]) (pc := 32) (v := 1) dX0_loudest_32 (by decide) rfl kc_1 rfl ?_
      refine e_goto (pc := 35) (tgt := 6) dX0_loudest_35 (by decide) ?_
      refine e_forget (L2 := [some (.ref a0), some (.int b3), some (.int x4), some (.int (b3 + 1)), none]) (And.intro rfl (And.intro rfl (And.intro rfl (And.intro rfl trivial)))) ?_
      exact hk6 b3 x4 (b3 + 1) w3
def f_X0_loudest (a0 : Nat) (w : aW) : Option (Int32 × aW) :=
  loop4 (c_X0_loudest_6 a0) a_fuel (0 : Int32) (-1 : Int32) (0 : Int32) w
theorem s_X0_loudest (a0 : Nat) (w : aW) : Sp rvI M_X0_loudest [.ref a0] w (f_X0_loudest a0 w) := by
  refine e_entry [some (.ref a0), none, none, none, none] (by decide +kernel) (Nat.le_of_ble_eq_true rfl) (fun _ => rfl) ?_
  unfold f_X0_loudest
  refine e_iconst (pc := 0) dX0_loudest_0 kc_0 ?_
  refine e_istore_n (L' := [some (.ref a0), some (.int (0 : Int32)), none, none, none]) (pc := 1) dX0_loudest_1 rfl (by decide) rfl ?_
  refine e_iconst (pc := 2) dX0_loudest_2 kc_m1 ?_
  refine e_istore_n (L' := [some (.ref a0), some (.int (0 : Int32)), some (.int (-1 : Int32)), none, none]) (pc := 3) dX0_loudest_3 rfl (by decide) rfl ?_
  refine e_iconst (pc := 4) dX0_loudest_4 kc_0 ?_
  refine e_istore_n (L' := [some (.ref a0), some (.int (0 : Int32)), some (.int (-1 : Int32)), some (.int (0 : Int32)), none]) (pc := 5) dX0_loudest_5 rfl (by decide) rfl ?_
  exact e_loop4 (L := fun b1 b2 b3 => [some (.ref a0), some (.int b1), some (.int b2), some (.int b3), none]) (S := fun b1 b2 b3 => []) (fun kf hkf => t_X0_loudest_6 a0  kf hkf) _ (0 : Int32) (-1 : Int32) (0 : Int32) w
def M_X0_pairsTogether : aM := (yX0_pairsTogether, cX0_pairsTogether, 4, (some .int), 1, 21)
theorem ok_X0_pairsTogether : a_okM M_X0_pairsTogether 0 := ⟨⟨by decide +kernel, by decide +kernel⟩, by decide +kernel, a_in 569 (by decide +kernel) rfl, a_in 77 (by decide +kernel) rfl⟩
theorem dX0_pairsTogether_0 : decode M_X0_pairsTogether.2.1 0 = .ok (.iconst 0, 1) := by decide +kernel
theorem dX0_pairsTogether_1 : decode M_X0_pairsTogether.2.1 1 = .ok (.istore_n 1, 1) := by decide +kernel
theorem dX0_pairsTogether_2 : decode M_X0_pairsTogether.2.1 2 = .ok (.iconst 0, 1) := by decide +kernel
theorem dX0_pairsTogether_3 : decode M_X0_pairsTogether.2.1 3 = .ok (.istore_n 2, 1) := by decide +kernel
theorem dX0_pairsTogether_4 : decode M_X0_pairsTogether.2.1 4 = .ok (.iload_n 2, 1) := by decide +kernel
theorem dX0_pairsTogether_5 : decode M_X0_pairsTogether.2.1 5 = .ok (.aload_n 0, 1) := by decide +kernel
theorem dX0_pairsTogether_6 : decode M_X0_pairsTogether.2.1 6 = .ok (.getfield 15, 3) := by decide +kernel
theorem dX0_pairsTogether_9 : decode M_X0_pairsTogether.2.1 9 = .ok (.if_icmp .ge 61, 3) := by decide +kernel
theorem dX0_pairsTogether_12 : decode M_X0_pairsTogether.2.1 12 = .ok (.iload_n 2, 1) := by decide +kernel
theorem dX0_pairsTogether_13 : decode M_X0_pairsTogether.2.1 13 = .ok (.iconst 1, 1) := by decide +kernel
theorem dX0_pairsTogether_14 : decode M_X0_pairsTogether.2.1 14 = .ok (.iadd, 1) := by decide +kernel
theorem dX0_pairsTogether_15 : decode M_X0_pairsTogether.2.1 15 = .ok (.istore_n 3, 1) := by decide +kernel
theorem dX0_pairsTogether_16 : decode M_X0_pairsTogether.2.1 16 = .ok (.iload_n 3, 1) := by decide +kernel
theorem dX0_pairsTogether_17 : decode M_X0_pairsTogether.2.1 17 = .ok (.aload_n 0, 1) := by decide +kernel
theorem dX0_pairsTogether_18 : decode M_X0_pairsTogether.2.1 18 = .ok (.getfield 15, 3) := by decide +kernel
theorem dX0_pairsTogether_21 : decode M_X0_pairsTogether.2.1 21 = .ok (.if_icmp .ge 43, 3) := by decide +kernel
theorem dX0_pairsTogether_24 : decode M_X0_pairsTogether.2.1 24 = .ok (.aload_n 0, 1) := by decide +kernel
theorem dX0_pairsTogether_25 : decode M_X0_pairsTogether.2.1 25 = .ok (.iload_n 2, 1) := by decide +kernel
theorem dX0_pairsTogether_26 : decode M_X0_pairsTogether.2.1 26 = .ok (.invokevirtual 75, 3) := by decide +kernel
theorem dX0_pairsTogether_29 : decode M_X0_pairsTogether.2.1 29 = .ok (.ifCond .eq 29, 3) := by decide +kernel
theorem dX0_pairsTogether_32 : decode M_X0_pairsTogether.2.1 32 = .ok (.aload_n 0, 1) := by decide +kernel
theorem dX0_pairsTogether_33 : decode M_X0_pairsTogether.2.1 33 = .ok (.iload_n 3, 1) := by decide +kernel
theorem dX0_pairsTogether_34 : decode M_X0_pairsTogether.2.1 34 = .ok (.invokevirtual 75, 3) := by decide +kernel
theorem dX0_pairsTogether_37 : decode M_X0_pairsTogether.2.1 37 = .ok (.ifCond .eq 21, 3) := by decide +kernel
theorem dX0_pairsTogether_40 : decode M_X0_pairsTogether.2.1 40 = .ok (.aload_n 0, 1) := by decide +kernel
theorem dX0_pairsTogether_41 : decode M_X0_pairsTogether.2.1 41 = .ok (.getfield 31, 3) := by decide +kernel
theorem dX0_pairsTogether_44 : decode M_X0_pairsTogether.2.1 44 = .ok (.iload_n 2, 1) := by decide +kernel
theorem dX0_pairsTogether_45 : decode M_X0_pairsTogether.2.1 45 = .ok (.iaload, 1) := by decide +kernel
theorem dX0_pairsTogether_46 : decode M_X0_pairsTogether.2.1 46 = .ok (.aload_n 0, 1) := by decide +kernel
theorem dX0_pairsTogether_47 : decode M_X0_pairsTogether.2.1 47 = .ok (.getfield 31, 3) := by decide +kernel
theorem dX0_pairsTogether_50 : decode M_X0_pairsTogether.2.1 50 = .ok (.iload_n 3, 1) := by decide +kernel
theorem dX0_pairsTogether_51 : decode M_X0_pairsTogether.2.1 51 = .ok (.iaload, 1) := by decide +kernel
theorem dX0_pairsTogether_52 : decode M_X0_pairsTogether.2.1 52 = .ok (.if_icmp .ne 6, 3) := by decide +kernel
theorem dX0_pairsTogether_55 : decode M_X0_pairsTogether.2.1 55 = .ok (.iinc 1 1, 3) := by decide +kernel
theorem dX0_pairsTogether_58 : decode M_X0_pairsTogether.2.1 58 = .ok (.iinc 3 1, 3) := by decide +kernel
theorem dX0_pairsTogether_61 : decode M_X0_pairsTogether.2.1 61 = .ok (.goto (-45), 3) := by decide +kernel
theorem dX0_pairsTogether_64 : decode M_X0_pairsTogether.2.1 64 = .ok (.iinc 2 1, 3) := by decide +kernel
theorem dX0_pairsTogether_67 : decode M_X0_pairsTogether.2.1 67 = .ok (.goto (-63), 3) := by decide +kernel
theorem dX0_pairsTogether_70 : decode M_X0_pairsTogether.2.1 70 = .ok (.iload_n 1, 1) := by decide +kernel
theorem dX0_pairsTogether_71 : decode M_X0_pairsTogether.2.1 71 = .ok (.ireturn, 1) := by decide +kernel
def c_X0_pairsTogether_16 (a0 : Nat) (k4 : Int32 → Int32 → aW → Option (Int32 × aW)) (k16 : Int32 → Int32 → Int32 → aW → Option (Int32 × aW)) (b1 : Int32) (b2 : Int32) (b3 : Int32) (w : aW) : Option (Int32 × aW) :=
  (gI 0 w a0 1).bind fun x2 =>
  if x2 ≤ b3 then
    k4 b1 (b2 + 1) w
  else
    cV 0 w a0 (bk (f_X0_isAlive a0 b2 w) fun x4 w3 =>
    if x4 = (0 : Int32) then
      k16 b1 b2 (b3 + 1) w3
    else
      cV 0 w3 a0 (bk (f_X0_isAlive a0 b3 w3) fun x6 w5 =>
      if x6 = (0 : Int32) then
        k16 b1 b2 (b3 + 1) w5
      else
        (gR 0 w5 a0 6).bind fun r7 =>
        (gA w5 r7 b2).bind fun x8 =>
        (gR 0 w5 a0 6).bind fun r9 =>
        (gA w5 r9 b3).bind fun x10 =>
        if ¬ x8 = x10 then
          k16 b1 b2 (b3 + 1) w5
        else
          k16 (b1 + 1) b2 (b3 + 1) w5))
theorem t_X0_pairsTogether_16 (a0 : Nat) (k4 : Int32 → Int32 → aW → Option (Int32 × aW)) (hk4 : ∀ (b1 : Int32) (b2 : Int32) (w : aW), Ev rvI M_X0_pairsTogether 4 [some (.ref a0), some (.int b1), some (.int b2), none] [] w (k4 b1 b2 w)) (k16 : Int32 → Int32 → Int32 → aW → Option (Int32 × aW)) (hk16 : ∀ (b1 : Int32) (b2 : Int32) (b3 : Int32) (w : aW), Ev rvI M_X0_pairsTogether 16 [some (.ref a0), some (.int b1), some (.int b2), some (.int b3)] [] w (k16 b1 b2 b3 w)) (b1 : Int32) (b2 : Int32) (b3 : Int32) (w : aW) : Ev rvI M_X0_pairsTogether 16 [some (.ref a0), some (.int b1), some (.int b2), some (.int b3)] [] w (c_X0_pairsTogether_16 a0 k4 k16 b1 b2 b3 w) := by
  unfold c_X0_pairsTogether_16
  refine e_iload_n (pc := 16) dX0_pairsTogether_16 rfl rfl ?_
  refine e_aload_n (pc := 17) dX0_pairsTogether_17 rfl rfl ?_
  refine e_getI (pc := 18) dX0_pairsTogether_18 hs_X0_15 (fun x2 => ?_)
  refine e_icmp_ge (pc := 21) (tgt := 64) dX0_pairsTogether_21 (by decide) (fun _ => ?_) (fun _ => ?_)
  · refine e_iinc (L' := [some (.ref a0), some (.int b1), some (.int (b2 + 1)), some (.int b3)]) (pc := 64) (v := 1) dX0_pairsTogether_64 (by decide) rfl kc_1 rfl ?_
    refine e_goto (pc := 67) (tgt := 4) dX0_pairsTogether_67 (by decide) ?_
    refine e_forget (L2 := [some (.ref a0), some (.int b1), some (.int (b2 + 1)), none]) (And.intro rfl (And.intro rfl (And.intro rfl trivial))) ?_
    exact hk4 b1 (b2 + 1) w
  · refine e_aload_n (pc := 24) dX0_pairsTogether_24 rfl rfl ?_
    refine e_iload_n (pc := 25) dX0_pairsTogether_25 rfl rfl ?_
    refine e_callV (pc := 26) (av := [.int b2]) (S := []) (c0 := 0) rfl rfl ok_X0_isAlive ⟨Nat.le_of_ble_eq_true rfl, Nat.le_of_ble_eq_true rfl⟩ hv_X0_75 dX0_pairsTogether_26 (s_X0_isAlive a0 b2 w) rfl rfl (Nat.le_of_ble_eq_true rfl) (fun x4 w3 => ?_)
    refine e_if_eq (pc := 29) (tgt := 58) dX0_pairsTogether_29 (by decide) (fun _ => ?_) (fun _ => ?_)
    · refine e_iinc (L' := [some (.ref a0), some (.int b1), some (.int b2), some (.int (b3 + 1))]) (pc := 58) (v := 1) dX0_pairsTogether_58 (by decide) rfl kc_1 rfl ?_
      refine e_goto (pc := 61) (tgt := 16) dX0_pairsTogether_61 (by decide) ?_
      exact hk16 b1 b2 (b3 + 1) w3
    · refine e_aload_n (pc := 32) dX0_pairsTogether_32 rfl rfl ?_
      refine e_iload_n (pc := 33) dX0_pairsTogether_33 rfl rfl ?_
      refine e_callV (pc := 34) (av := [.int b3]) (S := []) (c0 := 0) rfl rfl ok_X0_isAlive ⟨Nat.le_of_ble_eq_true rfl, Nat.le_of_ble_eq_true rfl⟩ hv_X0_75 dX0_pairsTogether_34 (s_X0_isAlive a0 b3 w3) rfl rfl (Nat.le_of_ble_eq_true rfl) (fun x6 w5 => ?_)
      refine e_if_eq (pc := 37) (tgt := 58) dX0_pairsTogether_37 (by decide) (fun _ => ?_) (fun _ => ?_)
      · refine e_iinc (L' := [some (.ref a0), some (.int b1), some (.int b2), some (.int (b3 + 1))]) (pc := 58) (v := 1) dX0_pairsTogether_58 (by decide) rfl kc_1 rfl ?_
        refine e_goto (pc := 61) (tgt := 16) dX0_pairsTogether_61 (by decide) ?_
        exact hk16 b1 b2 (b3 + 1) w5
      · refine e_aload_n (pc := 40) dX0_pairsTogether_40 rfl rfl ?_
        refine e_getR (pc := 41) dX0_pairsTogether_41 hs_X0_31 (fun r7 => ?_)
        refine e_iload_n (pc := 44) dX0_pairsTogether_44 rfl rfl ?_
        refine e_iald (pc := 45) dX0_pairsTogether_45 (fun x8 => ?_)
        refine e_aload_n (pc := 46) dX0_pairsTogether_46 rfl rfl ?_
        refine e_getR (pc := 47) dX0_pairsTogether_47 hs_X0_31 (fun r9 => ?_)
        refine e_iload_n (pc := 50) dX0_pairsTogether_50 rfl rfl ?_
        refine e_iald (pc := 51) dX0_pairsTogether_51 (fun x10 => ?_)
        refine e_icmp_ne (pc := 52) (tgt := 58) dX0_pairsTogether_52 (by decide) (fun _ => ?_) (fun _ => ?_)
        · refine e_iinc (L' := [some (.ref a0), some (.int b1), some (.int b2), some (.int (b3 + 1))]) (pc := 58) (v := 1) dX0_pairsTogether_58 (by decide) rfl kc_1 rfl ?_
          refine e_goto (pc := 61) (tgt := 16) dX0_pairsTogether_61 (by decide) ?_
          exact hk16 b1 b2 (b3 + 1) w5
        · refine e_iinc (L' := [some (.ref a0), some (.int (b1 + 1)), some (.int b2), some (.int b3)]) (pc := 55) (v := 1) dX0_pairsTogether_55 (by decide) rfl kc_1 rfl ?_
          refine e_iinc (L' := [some (.ref a0), some (.int (b1 + 1)), some (.int b2), some (.int (b3 + 1))]) (pc := 58) (v := 1) dX0_pairsTogether_58 (by decide) rfl kc_1 rfl ?_
          refine e_goto (pc := 61) (tgt := 16) dX0_pairsTogether_61 (by decide) ?_
          exact hk16 (b1 + 1) b2 (b3 + 1) w5
def c_X0_pairsTogether_4 (a0 : Nat) (k4 : Int32 → Int32 → aW → Option (Int32 × aW)) (b1 : Int32) (b2 : Int32) (w : aW) : Option (Int32 × aW) :=
  (gI 0 w a0 1).bind fun x1 =>
  if x1 ≤ b2 then
    some (b1, w)
  else
    loop4 (c_X0_pairsTogether_16 a0 k4) a_fuel b1 b2 (b2 + (1 : Int32)) w
theorem t_X0_pairsTogether_4 (a0 : Nat) (k4 : Int32 → Int32 → aW → Option (Int32 × aW)) (hk4 : ∀ (b1 : Int32) (b2 : Int32) (w : aW), Ev rvI M_X0_pairsTogether 4 [some (.ref a0), some (.int b1), some (.int b2), none] [] w (k4 b1 b2 w)) (b1 : Int32) (b2 : Int32) (w : aW) : Ev rvI M_X0_pairsTogether 4 [some (.ref a0), some (.int b1), some (.int b2), none] [] w (c_X0_pairsTogether_4 a0 k4 b1 b2 w) := by
  unfold c_X0_pairsTogether_4
  refine e_iload_n (pc := 4) dX0_pairsTogether_4 rfl rfl ?_
  refine e_aload_n (pc := 5) dX0_pairsTogether_5 rfl rfl ?_
  refine e_getI (pc := 6) dX0_pairsTogether_6 hs_X0_15 (fun x1 => ?_)
  refine e_icmp_ge (pc := 9) (tgt := 70) dX0_pairsTogether_9 (by decide) (fun _ => ?_) (fun _ => ?_)
  · refine e_iload_n (pc := 70) dX0_pairsTogether_70 rfl rfl ?_
    exact e_iret (pc := 71) dX0_pairsTogether_71 rfl rfl
  · refine e_iload_n (pc := 12) dX0_pairsTogether_12 rfl rfl ?_
    refine e_iconst (pc := 13) dX0_pairsTogether_13 kc_1 ?_
    refine e_iadd (pc := 14) dX0_pairsTogether_14 ?_
    refine e_istore_n (L' := [some (.ref a0), some (.int b1), some (.int b2), some (.int (b2 + (1 : Int32)))]) (pc := 15) dX0_pairsTogether_15 rfl (by decide) rfl ?_
    exact e_loop4 (L := fun b1 b2 b3 => [some (.ref a0), some (.int b1), some (.int b2), some (.int b3)]) (S := fun b1 b2 b3 => []) (fun kf hkf => t_X0_pairsTogether_16 a0 k4 hk4 kf hkf) _ b1 b2 (b2 + (1 : Int32)) w
def f_X0_pairsTogether (a0 : Nat) (w : aW) : Option (Int32 × aW) :=
  loop3 (c_X0_pairsTogether_4 a0) a_fuel (0 : Int32) (0 : Int32) w
theorem s_X0_pairsTogether (a0 : Nat) (w : aW) : Sp rvI M_X0_pairsTogether [.ref a0] w (f_X0_pairsTogether a0 w) := by
  refine e_entry [some (.ref a0), none, none, none] (by decide +kernel) (Nat.le_of_ble_eq_true rfl) (fun _ => rfl) ?_
  unfold f_X0_pairsTogether
  refine e_iconst (pc := 0) dX0_pairsTogether_0 kc_0 ?_
  refine e_istore_n (L' := [some (.ref a0), some (.int (0 : Int32)), none, none]) (pc := 1) dX0_pairsTogether_1 rfl (by decide) rfl ?_
  refine e_iconst (pc := 2) dX0_pairsTogether_2 kc_0 ?_
  refine e_istore_n (L' := [some (.ref a0), some (.int (0 : Int32)), some (.int (0 : Int32)), none]) (pc := 3) dX0_pairsTogether_3 rfl (by decide) rfl ?_
  exact e_loop3 (L := fun b1 b2 => [some (.ref a0), some (.int b1), some (.int b2), none]) (S := fun b1 b2 => []) (fun kf hkf => t_X0_pairsTogether_4 a0  kf hkf) _ (0 : Int32) (0 : Int32) w
def M_X0_hungriest : aM := (yX0_hungriest, cX0_hungriest, 4, (some .int), 1, 21)
theorem ok_X0_hungriest : a_okM M_X0_hungriest 0 := ⟨⟨by decide +kernel, by decide +kernel⟩, by decide +kernel, a_in 573 (by decide +kernel) rfl, a_in 77 (by decide +kernel) rfl⟩
theorem dX0_hungriest_0 : decode M_X0_hungriest.2.1 0 = .ok (.bipush (-4), 2) := by decide +kernel
theorem dX0_hungriest_2 : decode M_X0_hungriest.2.1 2 = .ok (.istore_n 1, 1) := by decide +kernel
theorem dX0_hungriest_3 : decode M_X0_hungriest.2.1 3 = .ok (.iconst (-1), 1) := by decide +kernel
theorem dX0_hungriest_4 : decode M_X0_hungriest.2.1 4 = .ok (.istore_n 2, 1) := by decide +kernel
theorem dX0_hungriest_5 : decode M_X0_hungriest.2.1 5 = .ok (.iconst 0, 1) := by decide +kernel
theorem dX0_hungriest_6 : decode M_X0_hungriest.2.1 6 = .ok (.istore_n 3, 1) := by decide +kernel
theorem dX0_hungriest_7 : decode M_X0_hungriest.2.1 7 = .ok (.iload_n 3, 1) := by decide +kernel
theorem dX0_hungriest_8 : decode M_X0_hungriest.2.1 8 = .ok (.bipush 9, 2) := by decide +kernel
theorem dX0_hungriest_10 : decode M_X0_hungriest.2.1 10 = .ok (.if_icmp .ge 36, 3) := by decide +kernel
theorem dX0_hungriest_13 : decode M_X0_hungriest.2.1 13 = .ok (.aload_n 0, 1) := by decide +kernel
theorem dX0_hungriest_14 : decode M_X0_hungriest.2.1 14 = .ok (.iload_n 3, 1) := by decide +kernel
theorem dX0_hungriest_15 : decode M_X0_hungriest.2.1 15 = .ok (.invokevirtual 75, 3) := by decide +kernel
theorem dX0_hungriest_18 : decode M_X0_hungriest.2.1 18 = .ok (.ifCond .eq 22, 3) := by decide +kernel
theorem dX0_hungriest_21 : decode M_X0_hungriest.2.1 21 = .ok (.aload_n 0, 1) := by decide +kernel
theorem dX0_hungriest_22 : decode M_X0_hungriest.2.1 22 = .ok (.getfield 34, 3) := by decide +kernel
theorem dX0_hungriest_25 : decode M_X0_hungriest.2.1 25 = .ok (.iload_n 3, 1) := by decide +kernel
theorem dX0_hungriest_26 : decode M_X0_hungriest.2.1 26 = .ok (.iaload, 1) := by decide +kernel
theorem dX0_hungriest_27 : decode M_X0_hungriest.2.1 27 = .ok (.iload_n 2, 1) := by decide +kernel
theorem dX0_hungriest_28 : decode M_X0_hungriest.2.1 28 = .ok (.if_icmp .le 12, 3) := by decide +kernel
theorem dX0_hungriest_31 : decode M_X0_hungriest.2.1 31 = .ok (.aload_n 0, 1) := by decide +kernel
theorem dX0_hungriest_32 : decode M_X0_hungriest.2.1 32 = .ok (.getfield 34, 3) := by decide +kernel
theorem dX0_hungriest_35 : decode M_X0_hungriest.2.1 35 = .ok (.iload_n 3, 1) := by decide +kernel
theorem dX0_hungriest_36 : decode M_X0_hungriest.2.1 36 = .ok (.iaload, 1) := by decide +kernel
theorem dX0_hungriest_37 : decode M_X0_hungriest.2.1 37 = .ok (.istore_n 2, 1) := by decide +kernel
theorem dX0_hungriest_38 : decode M_X0_hungriest.2.1 38 = .ok (.iload_n 3, 1) := by decide +kernel
theorem dX0_hungriest_39 : decode M_X0_hungriest.2.1 39 = .ok (.istore_n 1, 1) := by decide +kernel
theorem dX0_hungriest_40 : decode M_X0_hungriest.2.1 40 = .ok (.iinc 3 1, 3) := by decide +kernel
theorem dX0_hungriest_43 : decode M_X0_hungriest.2.1 43 = .ok (.goto (-36), 3) := by decide +kernel
theorem dX0_hungriest_46 : decode M_X0_hungriest.2.1 46 = .ok (.iload_n 1, 1) := by decide +kernel
theorem dX0_hungriest_47 : decode M_X0_hungriest.2.1 47 = .ok (.ireturn, 1) := by decide +kernel
def c_X0_hungriest_7 (a0 : Nat) (k7 : Int32 → Int32 → Int32 → aW → Option (Int32 × aW)) (b1 : Int32) (b2 : Int32) (b3 : Int32) (w : aW) : Option (Int32 × aW) :=
  if (9 : Int32) ≤ b3 then
    some (b1, w)
  else
    cV 0 w a0 (bk (f_X0_isAlive a0 b3 w) fun x2 w1 =>
    if x2 = (0 : Int32) then
      k7 b1 b2 (b3 + 1) w1
    else
      (gR 0 w1 a0 7).bind fun r3 =>
      (gA w1 r3 b3).bind fun x4 =>
      if x4 ≤ b2 then
        k7 b1 b2 (b3 + 1) w1
      else
        (gR 0 w1 a0 7).bind fun r5 =>
        (gA w1 r5 b3).bind fun x6 =>
        k7 b3 x6 (b3 + 1) w1)
theorem t_X0_hungriest_7 (a0 : Nat) (k7 : Int32 → Int32 → Int32 → aW → Option (Int32 × aW)) (hk7 : ∀ (b1 : Int32) (b2 : Int32) (b3 : Int32) (w : aW), Ev rvI M_X0_hungriest 7 [some (.ref a0), some (.int b1), some (.int b2), some (.int b3)] [] w (k7 b1 b2 b3 w)) (b1 : Int32) (b2 : Int32) (b3 : Int32) (w : aW) : Ev rvI M_X0_hungriest 7 [some (.ref a0), some (.int b1), some (.int b2), some (.int b3)] [] w (c_X0_hungriest_7 a0 k7 b1 b2 b3 w) := by
  unfold c_X0_hungriest_7
  refine e_iload_n (pc := 7) dX0_hungriest_7 rfl rfl ?_
  refine e_bipush (pc := 8) dX0_hungriest_8 kb_9 ?_
  refine e_icmp_ge (pc := 10) (tgt := 46) dX0_hungriest_10 (by decide) (fun _ => ?_) (fun _ => ?_)
  · refine e_iload_n (pc := 46) dX0_hungriest_46 rfl rfl ?_
    exact e_iret (pc := 47) dX0_hungriest_47 rfl rfl
  · refine e_aload_n (pc := 13) dX0_hungriest_13 rfl rfl ?_
    refine e_iload_n (pc := 14) dX0_hungriest_14 rfl rfl ?_
    refine e_callV (pc := 15) (av := [.int b3]) (S := []) (c0 := 0) rfl rfl ok_X0_isAlive ⟨Nat.le_of_ble_eq_true rfl, Nat.le_of_ble_eq_true rfl⟩ hv_X0_75 dX0_hungriest_15 (s_X0_isAlive a0 b3 w) rfl rfl (Nat.le_of_ble_eq_true rfl) (fun x2 w1 => ?_)
    refine e_if_eq (pc := 18) (tgt := 40) dX0_hungriest_18 (by decide) (fun _ => ?_) (fun _ => ?_)
    · refine e_iinc (L' := [some (.ref a0), some (.int b1), some (.int b2), some (.int (b3 + 1))]) (pc := 40) (v := 1) dX0_hungriest_40 (by decide) rfl kc_1 rfl ?_
      refine e_goto (pc := 43) (tgt := 7) dX0_hungriest_43 (by decide) ?_
      exact hk7 b1 b2 (b3 + 1) w1
    · refine e_aload_n (pc := 21) dX0_hungriest_21 rfl rfl ?_
      refine e_getR (pc := 22) dX0_hungriest_22 hs_X0_34 (fun r3 => ?_)
      refine e_iload_n (pc := 25) dX0_hungriest_25 rfl rfl ?_
      refine e_iald (pc := 26) dX0_hungriest_26 (fun x4 => ?_)
      refine e_iload_n (pc := 27) dX0_hungriest_27 rfl rfl ?_
      refine e_icmp_le (pc := 28) (tgt := 40) dX0_hungriest_28 (by decide) (fun _ => ?_) (fun _ => ?_)
      · refine e_iinc (L' := [some (.ref a0), some (.int b1), some (.int b2), some (.int (b3 + 1))]) (pc := 40) (v := 1) dX0_hungriest_40 (by decide) rfl kc_1 rfl ?_
        refine e_goto (pc := 43) (tgt := 7) dX0_hungriest_43 (by decide) ?_
        exact hk7 b1 b2 (b3 + 1) w1
      · refine e_aload_n (pc := 31) dX0_hungriest_31 rfl rfl ?_
        refine e_getR (pc := 32) dX0_hungriest_32 hs_X0_34 (fun r5 => ?_)
        refine e_iload_n (pc := 35) dX0_hungriest_35 rfl rfl ?_
        refine e_iald (pc := 36) dX0_hungriest_36 (fun x6 => ?_)
        refine e_istore_n (L' := [some (.ref a0), some (.int b1), some (.int x6), some (.int b3)]) (pc := 37) dX0_hungriest_37 rfl (by decide) rfl ?_
        refine e_iload_n (pc := 38) dX0_hungriest_38 rfl rfl ?_
        refine e_istore_n (L' := [some (.ref a0), some (.int b3), some (.int x6), some (.int b3)]) (pc := 39) dX0_hungriest_39 rfl (by decide) rfl ?_
        refine e_iinc (L' := [some (.ref a0), some (.int b3), some (.int x6), some (.int (b3 + 1))]) (pc := 40) (v := 1) dX0_hungriest_40 (by decide) rfl kc_1 rfl ?_
        refine e_goto (pc := 43) (tgt := 7) dX0_hungriest_43 (by decide) ?_
        exact hk7 b3 x6 (b3 + 1) w1
def f_X0_hungriest (a0 : Nat) (w : aW) : Option (Int32 × aW) :=
  loop4 (c_X0_hungriest_7 a0) a_fuel (-4 : Int32) (-1 : Int32) (0 : Int32) w
theorem s_X0_hungriest (a0 : Nat) (w : aW) : Sp rvI M_X0_hungriest [.ref a0] w (f_X0_hungriest a0 w) := by
  refine e_entry [some (.ref a0), none, none, none] (by decide +kernel) (Nat.le_of_ble_eq_true rfl) (fun _ => rfl) ?_
  unfold f_X0_hungriest
  refine e_bipush (pc := 0) dX0_hungriest_0 kb_m4 ?_
  refine e_istore_n (L' := [some (.ref a0), some (.int (-4 : Int32)), none, none]) (pc := 2) dX0_hungriest_2 rfl (by decide) rfl ?_
  refine e_iconst (pc := 3) dX0_hungriest_3 kc_m1 ?_
  refine e_istore_n (L' := [some (.ref a0), some (.int (-4 : Int32)), some (.int (-1 : Int32)), none]) (pc := 4) dX0_hungriest_4 rfl (by decide) rfl ?_
  refine e_iconst (pc := 5) dX0_hungriest_5 kc_0 ?_
  refine e_istore_n (L' := [some (.ref a0), some (.int (-4 : Int32)), some (.int (-1 : Int32)), some (.int (0 : Int32))]) (pc := 6) dX0_hungriest_6 rfl (by decide) rfl ?_
  exact e_loop4 (L := fun b1 b2 b3 => [some (.ref a0), some (.int b1), some (.int b2), some (.int b3)]) (S := fun b1 b2 b3 => []) (fun kf hkf => t_X0_hungriest_7 a0  kf hkf) _ (-4 : Int32) (-1 : Int32) (0 : Int32) w
def M_X1_becomeEmpty : aM := (yX1_becomeEmpty, cX1_becomeEmpty, 1, none, 0, 0)
theorem ok_X1_becomeEmpty : a_okM M_X1_becomeEmpty 0 := ⟨⟨by decide +kernel, by decide +kernel⟩, by decide +kernel, a_in 691 (by decide +kernel) rfl, a_in 78 (by decide +kernel) rfl⟩
theorem dX1_becomeEmpty_0 : decode M_X1_becomeEmpty.2.1 0 = .ok (.aload_n 0, 1) := by decide +kernel
theorem dX1_becomeEmpty_1 : decode M_X1_becomeEmpty.2.1 1 = .ok (.iconst 0, 1) := by decide +kernel
theorem dX1_becomeEmpty_2 : decode M_X1_becomeEmpty.2.1 2 = .ok (.putfield 11, 3) := by decide +kernel
theorem dX1_becomeEmpty_5 : decode M_X1_becomeEmpty.2.1 5 = .ok (.aload_n 0, 1) := by decide +kernel
theorem dX1_becomeEmpty_6 : decode M_X1_becomeEmpty.2.1 6 = .ok (.iconst 0, 1) := by decide +kernel
theorem dX1_becomeEmpty_7 : decode M_X1_becomeEmpty.2.1 7 = .ok (.putfield 24, 3) := by decide +kernel
theorem dX1_becomeEmpty_10 : decode M_X1_becomeEmpty.2.1 10 = .ok (.return_, 1) := by decide +kernel
theorem hw_X1_11 : a_fw RX1 11 1 0 (.int) := ⟨RX1, TX1, 6, tyX1, rfl, tin_X1, by decide, a_in 165 (by decide +kernel) rfl, tyX1_ok, nmX1, rfl, by decide +kernel⟩
theorem hw_X1_24 : a_fw RX1 24 1 4 (.int) := ⟨RX1, TX1, 6, tyX1, rfl, tin_X1, by decide, a_in 173 (by decide +kernel) rfl, tyX1_ok, nmX1, rfl, by decide +kernel⟩
def f_X1_becomeEmpty (a0 : Nat) (w : aW) : Option (Unit × aW) :=
  (sF 1 w a0 0 (.int (0 : Int32))).bind fun w1 =>
  (sF 1 w1 a0 4 (.int (0 : Int32))).bind fun w2 =>
  some ((), w2)
theorem s_X1_becomeEmpty (a0 : Nat) (w : aW) : Sp rvV M_X1_becomeEmpty [.ref a0] w (f_X1_becomeEmpty a0 w) := by
  refine e_entry [some (.ref a0)] (by decide +kernel) (Nat.le_of_ble_eq_true rfl) (fun _ => rfl) ?_
  unfold f_X1_becomeEmpty
  refine e_aload_n (pc := 0) dX1_becomeEmpty_0 rfl rfl ?_
  refine e_iconst (pc := 1) dX1_becomeEmpty_1 kc_0 ?_
  refine e_put (pc := 2) dX1_becomeEmpty_2 hw_X1_11 (fun _ => rfl) (fun _ => rfl) (fun w1 => ?_)
  refine e_aload_n (pc := 5) dX1_becomeEmpty_5 rfl rfl ?_
  refine e_iconst (pc := 6) dX1_becomeEmpty_6 kc_0 ?_
  refine e_put (pc := 7) dX1_becomeEmpty_7 hw_X1_24 (fun _ => rfl) (fun _ => rfl) (fun w2 => ?_)
  exact e_vret (pc := 10) dX1_becomeEmpty_10 rfl
def M_X1_holdBeast : aM := (yX1_holdBeast, cX1_holdBeast, 3, none, 0, 0)
theorem ok_X1_holdBeast : a_okM M_X1_holdBeast 2 := ⟨⟨by decide +kernel, by decide +kernel⟩, by decide +kernel, a_in 697 (by decide +kernel) rfl, a_in 78 (by decide +kernel) rfl⟩
theorem dX1_holdBeast_0 : decode M_X1_holdBeast.2.1 0 = .ok (.aload_n 0, 1) := by decide +kernel
theorem dX1_holdBeast_1 : decode M_X1_holdBeast.2.1 1 = .ok (.iconst 1, 1) := by decide +kernel
theorem dX1_holdBeast_2 : decode M_X1_holdBeast.2.1 2 = .ok (.putfield 11, 3) := by decide +kernel
theorem dX1_holdBeast_5 : decode M_X1_holdBeast.2.1 5 = .ok (.aload_n 0, 1) := by decide +kernel
theorem dX1_holdBeast_6 : decode M_X1_holdBeast.2.1 6 = .ok (.iconst 0, 1) := by decide +kernel
theorem dX1_holdBeast_7 : decode M_X1_holdBeast.2.1 7 = .ok (.putfield 24, 3) := by decide +kernel
theorem dX1_holdBeast_10 : decode M_X1_holdBeast.2.1 10 = .ok (.aload_n 0, 1) := by decide +kernel
theorem dX1_holdBeast_11 : decode M_X1_holdBeast.2.1 11 = .ok (.iload_n 1, 1) := by decide +kernel
theorem dX1_holdBeast_12 : decode M_X1_holdBeast.2.1 12 = .ok (.putfield 15, 3) := by decide +kernel
theorem dX1_holdBeast_15 : decode M_X1_holdBeast.2.1 15 = .ok (.aload_n 0, 1) := by decide +kernel
theorem dX1_holdBeast_16 : decode M_X1_holdBeast.2.1 16 = .ok (.iload_n 2, 1) := by decide +kernel
theorem dX1_holdBeast_17 : decode M_X1_holdBeast.2.1 17 = .ok (.putfield 18, 3) := by decide +kernel
theorem dX1_holdBeast_20 : decode M_X1_holdBeast.2.1 20 = .ok (.return_, 1) := by decide +kernel
theorem hw_X1_15 : a_fw RX1 15 1 1 (.int) := ⟨RX1, TX1, 6, tyX1, rfl, tin_X1, by decide, a_in 167 (by decide +kernel) rfl, tyX1_ok, nmX1, rfl, by decide +kernel⟩
theorem hw_X1_18 : a_fw RX1 18 1 2 (.int) := ⟨RX1, TX1, 6, tyX1, rfl, tin_X1, by decide, a_in 169 (by decide +kernel) rfl, tyX1_ok, nmX1, rfl, by decide +kernel⟩
def f_X1_holdBeast (a0 : Nat) (a1 : Int32) (a2 : Int32) (w : aW) : Option (Unit × aW) :=
  (sF 1 w a0 0 (.int (1 : Int32))).bind fun w1 =>
  (sF 1 w1 a0 4 (.int (0 : Int32))).bind fun w2 =>
  (sF 1 w2 a0 1 (.int a1)).bind fun w3 =>
  (sF 1 w3 a0 2 (.int a2)).bind fun w4 =>
  some ((), w4)
theorem s_X1_holdBeast (a0 : Nat) (a1 : Int32) (a2 : Int32) (w : aW) : Sp rvV M_X1_holdBeast [.ref a0, .int a1, .int a2] w (f_X1_holdBeast a0 a1 a2 w) := by
  refine e_entry [some (.ref a0), some (.int a1), some (.int a2)] (by decide +kernel) (Nat.le_of_ble_eq_true rfl) (fun _ => rfl) ?_
  unfold f_X1_holdBeast
  refine e_aload_n (pc := 0) dX1_holdBeast_0 rfl rfl ?_
  refine e_iconst (pc := 1) dX1_holdBeast_1 kc_1 ?_
  refine e_put (pc := 2) dX1_holdBeast_2 hw_X1_11 (fun _ => rfl) (fun _ => rfl) (fun w1 => ?_)
  refine e_aload_n (pc := 5) dX1_holdBeast_5 rfl rfl ?_
  refine e_iconst (pc := 6) dX1_holdBeast_6 kc_0 ?_
  refine e_put (pc := 7) dX1_holdBeast_7 hw_X1_24 (fun _ => rfl) (fun _ => rfl) (fun w2 => ?_)
  refine e_aload_n (pc := 10) dX1_holdBeast_10 rfl rfl ?_
  refine e_iload_n (pc := 11) dX1_holdBeast_11 rfl rfl ?_
  refine e_put (pc := 12) dX1_holdBeast_12 hw_X1_15 (fun _ => rfl) (fun _ => rfl) (fun w3 => ?_)
  refine e_aload_n (pc := 15) dX1_holdBeast_15 rfl rfl ?_
  refine e_iload_n (pc := 16) dX1_holdBeast_16 rfl rfl ?_
  refine e_put (pc := 17) dX1_holdBeast_17 hw_X1_18 (fun _ => rfl) (fun _ => rfl) (fun w4 => ?_)
  exact e_vret (pc := 20) dX1_holdBeast_20 rfl
def M_J7_fill_53178 : aM := (yJ7_fill_53178, cJ7_fill_53178, 4, none, 0, 0)
theorem ok_J7_fill_53178 : a_okM M_J7_fill_53178 2 := ⟨⟨by decide +kernel, by decide +kernel⟩, by decide +kernel, a_in 710 (by decide +kernel) rfl, a_in 84 (by decide +kernel) rfl⟩
theorem dJ7_fill_53178_0 : decode M_J7_fill_53178.2.1 0 = .ok (.iconst 0, 1) := by decide +kernel
theorem dJ7_fill_53178_1 : decode M_J7_fill_53178.2.1 1 = .ok (.istore_n 2, 1) := by decide +kernel
theorem dJ7_fill_53178_2 : decode M_J7_fill_53178.2.1 2 = .ok (.aload_n 0, 1) := by decide +kernel
theorem dJ7_fill_53178_3 : decode M_J7_fill_53178.2.1 3 = .ok (.arraylength, 1) := by decide +kernel
theorem dJ7_fill_53178_4 : decode M_J7_fill_53178.2.1 4 = .ok (.istore_n 3, 1) := by decide +kernel
theorem dJ7_fill_53178_5 : decode M_J7_fill_53178.2.1 5 = .ok (.iload_n 2, 1) := by decide +kernel
theorem dJ7_fill_53178_6 : decode M_J7_fill_53178.2.1 6 = .ok (.iload_n 3, 1) := by decide +kernel
theorem dJ7_fill_53178_7 : decode M_J7_fill_53178.2.1 7 = .ok (.if_icmp .ge 13, 3) := by decide +kernel
theorem dJ7_fill_53178_10 : decode M_J7_fill_53178.2.1 10 = .ok (.aload_n 0, 1) := by decide +kernel
theorem dJ7_fill_53178_11 : decode M_J7_fill_53178.2.1 11 = .ok (.iload_n 2, 1) := by decide +kernel
theorem dJ7_fill_53178_12 : decode M_J7_fill_53178.2.1 12 = .ok (.iload_n 1, 1) := by decide +kernel
theorem dJ7_fill_53178_13 : decode M_J7_fill_53178.2.1 13 = .ok (.iastore, 1) := by decide +kernel
theorem dJ7_fill_53178_14 : decode M_J7_fill_53178.2.1 14 = .ok (.iinc 2 1, 3) := by decide +kernel
theorem dJ7_fill_53178_17 : decode M_J7_fill_53178.2.1 17 = .ok (.goto (-12), 3) := by decide +kernel
theorem dJ7_fill_53178_20 : decode M_J7_fill_53178.2.1 20 = .ok (.return_, 1) := by decide +kernel
def c_J7_fill_53178_5 (a0 : Nat) (a1 : Int32) (k5 : Int32 → Int32 → aW → Option (Unit × aW)) (b2 : Int32) (b3 : Int32) (w : aW) : Option (Unit × aW) :=
  if b3 ≤ b2 then
    some ((), w)
  else
    (sA w a0 b2 a1).bind fun w2 =>
    k5 (b2 + 1) b3 w2
theorem t_J7_fill_53178_5 (a0 : Nat) (a1 : Int32) (k5 : Int32 → Int32 → aW → Option (Unit × aW)) (hk5 : ∀ (b2 : Int32) (b3 : Int32) (w : aW), Ev rvV M_J7_fill_53178 5 [some (.ref a0), some (.int a1), some (.int b2), some (.int b3)] [] w (k5 b2 b3 w)) (b2 : Int32) (b3 : Int32) (w : aW) : Ev rvV M_J7_fill_53178 5 [some (.ref a0), some (.int a1), some (.int b2), some (.int b3)] [] w (c_J7_fill_53178_5 a0 a1 k5 b2 b3 w) := by
  unfold c_J7_fill_53178_5
  refine e_iload_n (pc := 5) dJ7_fill_53178_5 rfl rfl ?_
  refine e_iload_n (pc := 6) dJ7_fill_53178_6 rfl rfl ?_
  refine e_icmp_ge (pc := 7) (tgt := 20) dJ7_fill_53178_7 (by decide) (fun _ => ?_) (fun _ => ?_)
  · exact e_vret (pc := 20) dJ7_fill_53178_20 rfl
  · refine e_aload_n (pc := 10) dJ7_fill_53178_10 rfl rfl ?_
    refine e_iload_n (pc := 11) dJ7_fill_53178_11 rfl rfl ?_
    refine e_iload_n (pc := 12) dJ7_fill_53178_12 rfl rfl ?_
    refine e_iast (pc := 13) dJ7_fill_53178_13 (fun w2 => ?_)
    refine e_iinc (L' := [some (.ref a0), some (.int a1), some (.int (b2 + 1)), some (.int b3)]) (pc := 14) (v := 1) dJ7_fill_53178_14 (by decide) rfl kc_1 rfl ?_
    refine e_goto (pc := 17) (tgt := 5) dJ7_fill_53178_17 (by decide) ?_
    exact hk5 (b2 + 1) b3 w2
def f_J7_fill_53178 (a0 : Nat) (a1 : Int32) (w : aW) : Option (Unit × aW) :=
  (gN w a0).bind fun x1 =>
  loop3 (c_J7_fill_53178_5 a0 a1) a_fuel (0 : Int32) x1 w
theorem s_J7_fill_53178 (a0 : Nat) (a1 : Int32) (w : aW) : Sp rvV M_J7_fill_53178 [.ref a0, .int a1] w (f_J7_fill_53178 a0 a1 w) := by
  refine e_entry [some (.ref a0), some (.int a1), none, none] (by decide +kernel) (Nat.le_of_ble_eq_true rfl) (fun _ => rfl) ?_
  unfold f_J7_fill_53178
  refine e_iconst (pc := 0) dJ7_fill_53178_0 kc_0 ?_
  refine e_istore_n (L' := [some (.ref a0), some (.int a1), some (.int (0 : Int32)), none]) (pc := 1) dJ7_fill_53178_1 rfl (by decide) rfl ?_
  refine e_aload_n (pc := 2) dJ7_fill_53178_2 rfl rfl ?_
  refine e_alen (pc := 3) dJ7_fill_53178_3 (fun x1 => ?_)
  refine e_istore_n (L' := [some (.ref a0), some (.int a1), some (.int (0 : Int32)), some (.int x1)]) (pc := 4) dJ7_fill_53178_4 rfl (by decide) rfl ?_
  exact e_loop3 (L := fun b2 b3 => [some (.ref a0), some (.int a1), some (.int b2), some (.int b3)]) (S := fun b2 b3 => []) (fun kf hkf => t_J7_fill_53178_5 a0 a1  kf hkf) _ (0 : Int32) x1 w
def M_X1_holdRow : aM := (yX1_holdRow, cX1_holdRow, 3, none, 1, 23)
theorem ok_X1_holdRow : a_okM M_X1_holdRow 2 := ⟨⟨by decide +kernel, by decide +kernel⟩, by decide +kernel, a_in 705 (by decide +kernel) rfl, a_in 78 (by decide +kernel) rfl⟩
theorem dX1_holdRow_0 : decode M_X1_holdRow.2.1 0 = .ok (.aload_n 0, 1) := by decide +kernel
theorem dX1_holdRow_1 : decode M_X1_holdRow.2.1 1 = .ok (.iconst 2, 1) := by decide +kernel
theorem dX1_holdRow_2 : decode M_X1_holdRow.2.1 2 = .ok (.putfield 11, 3) := by decide +kernel
theorem dX1_holdRow_5 : decode M_X1_holdRow.2.1 5 = .ok (.aload_n 0, 1) := by decide +kernel
theorem dX1_holdRow_6 : decode M_X1_holdRow.2.1 6 = .ok (.iload_n 1, 1) := by decide +kernel
theorem dX1_holdRow_7 : decode M_X1_holdRow.2.1 7 = .ok (.putfield 21, 3) := by decide +kernel
theorem dX1_holdRow_10 : decode M_X1_holdRow.2.1 10 = .ok (.aload_n 0, 1) := by decide +kernel
theorem dX1_holdRow_11 : decode M_X1_holdRow.2.1 11 = .ok (.iconst 0, 1) := by decide +kernel
theorem dX1_holdRow_12 : decode M_X1_holdRow.2.1 12 = .ok (.bipush 100, 2) := by decide +kernel
theorem dX1_holdRow_14 : decode M_X1_holdRow.2.1 14 = .ok (.iload_n 2, 1) := by decide +kernel
theorem dX1_holdRow_15 : decode M_X1_holdRow.2.1 15 = .ok (.invokestatic 31, 3) := by decide +kernel
theorem dX1_holdRow_18 : decode M_X1_holdRow.2.1 18 = .ok (.invokestatic 37, 3) := by decide +kernel
theorem dX1_holdRow_21 : decode M_X1_holdRow.2.1 21 = .ok (.putfield 24, 3) := by decide +kernel
theorem dX1_holdRow_24 : decode M_X1_holdRow.2.1 24 = .ok (.aload_n 0, 1) := by decide +kernel
theorem dX1_holdRow_25 : decode M_X1_holdRow.2.1 25 = .ok (.getfield 27, 3) := by decide +kernel
theorem dX1_holdRow_28 : decode M_X1_holdRow.2.1 28 = .ok (.iconst 0, 1) := by decide +kernel
theorem dX1_holdRow_29 : decode M_X1_holdRow.2.1 29 = .ok (.invokestatic 40, 3) := by decide +kernel
theorem dX1_holdRow_32 : decode M_X1_holdRow.2.1 32 = .ok (.return_, 1) := by decide +kernel
theorem hw_X1_21 : a_fw RX1 21 1 3 (.int) := ⟨RX1, TX1, 6, tyX1, rfl, tin_X1, by decide, a_in 171 (by decide +kernel) rfl, tyX1_ok, nmX1, rfl, by decide +kernel⟩
theorem hm_X1_31 : Cond.methodLink RX1 31 Lib.Math.min.name ∈ a_T ∧ Cond.static Lib.Math.min.name ∈ a_T ∧ Cond.initialized "java/lang/Math" ∈ a_T ∧ Cond.code Lib.Math.min.name Lib.Math.min.code 2 (some .int) ∈ a_T := ⟨a_in 706 (by decide +kernel) rfl, a_in 371 (by decide +kernel) rfl, a_in 81 (by decide +kernel) rfl, a_in 372 (by decide +kernel) rfl⟩
theorem hm_X1_37 : Cond.methodLink RX1 37 Lib.Math.max.name ∈ a_T ∧ Cond.static Lib.Math.max.name ∈ a_T ∧ Cond.initialized "java/lang/Math" ∈ a_T ∧ Cond.code Lib.Math.max.name Lib.Math.max.code 2 (some .int) ∈ a_T := ⟨a_in 707 (by decide +kernel) rfl, a_in 387 (by decide +kernel) rfl, a_in 81 (by decide +kernel) rfl, a_in 388 (by decide +kernel) rfl⟩
theorem hs_X1_27 : a_fs RX1 27 1 5 := ⟨RX1, TX1, 6, rfl, tin_X1, by decide, a_in 175 (by decide +kernel) rfl⟩
theorem ht_X1_40 : a_okS RX1 M_J7_fill_53178 40 := ⟨a_in 708 (by decide +kernel) rfl, a_in 709 (by decide +kernel) rfl⟩
def f_X1_holdRow (a0 : Nat) (a1 : Int32) (a2 : Int32) (w : aW) : Option (Unit × aW) :=
  (sF 1 w a0 0 (.int (2 : Int32))).bind fun w1 =>
  (sF 1 w1 a0 3 (.int a1)).bind fun w2 =>
  (sF 1 w2 a0 4 (.int (if (0 : Int32) < (if a2 < (100 : Int32) then a2 else (100 : Int32)) then (if a2 < (100 : Int32) then a2 else (100 : Int32)) else (0 : Int32)))).bind fun w3 =>
  (gR 1 w3 a0 5).bind fun r4 =>
  bk (f_J7_fill_53178 r4 (0 : Int32) w3) fun _ w5 =>
  some ((), w5)
theorem s_X1_holdRow (a0 : Nat) (a1 : Int32) (a2 : Int32) (w : aW) : Sp rvV M_X1_holdRow [.ref a0, .int a1, .int a2] w (f_X1_holdRow a0 a1 a2 w) := by
  refine e_entry [some (.ref a0), some (.int a1), some (.int a2)] (by decide +kernel) (Nat.le_of_ble_eq_true rfl) (fun _ => rfl) ?_
  unfold f_X1_holdRow
  refine e_aload_n (pc := 0) dX1_holdRow_0 rfl rfl ?_
  refine e_iconst (pc := 1) dX1_holdRow_1 kc_2 ?_
  refine e_put (pc := 2) dX1_holdRow_2 hw_X1_11 (fun _ => rfl) (fun _ => rfl) (fun w1 => ?_)
  refine e_aload_n (pc := 5) dX1_holdRow_5 rfl rfl ?_
  refine e_iload_n (pc := 6) dX1_holdRow_6 rfl rfl ?_
  refine e_put (pc := 7) dX1_holdRow_7 hw_X1_21 (fun _ => rfl) (fun _ => rfl) (fun w2 => ?_)
  refine e_aload_n (pc := 10) dX1_holdRow_10 rfl rfl ?_
  refine e_iconst (pc := 11) dX1_holdRow_11 kc_0 ?_
  refine e_bipush (pc := 12) dX1_holdRow_12 kb_100 ?_
  refine e_iload_n (pc := 14) dX1_holdRow_14 rfl rfl ?_
  refine e_mmin (pc := 15) (Nat.le_of_ble_eq_true rfl) (Nat.le_of_ble_eq_true rfl) hm_X1_31 dX1_holdRow_15 ?_
  refine e_mmax (pc := 18) (Nat.le_of_ble_eq_true rfl) (Nat.le_of_ble_eq_true rfl) hm_X1_37 dX1_holdRow_18 ?_
  refine e_put (pc := 21) dX1_holdRow_21 hw_X1_24 (fun _ => rfl) (fun _ => rfl) (fun w3 => ?_)
  refine e_aload_n (pc := 24) dX1_holdRow_24 rfl rfl ?_
  refine e_getR (pc := 25) dX1_holdRow_25 hs_X1_27 (fun r4 => ?_)
  refine e_iconst (pc := 28) dX1_holdRow_28 kc_0 ?_
  refine e_callS (pc := 29) (av := [.ref r4, .int (0 : Int32)]) (S := []) ok_J7_fill_53178 ⟨Nat.le_of_ble_eq_true rfl, Nat.le_of_ble_eq_true rfl⟩ ht_X1_40 dX1_holdRow_29 (s_J7_fill_53178 r4 (0 : Int32) w3) rfl rfl (Nat.le_of_ble_eq_true rfl) (fun _ w5 => ?_)
  exact e_vret (pc := 32) dX1_holdRow_32 rfl
def M_X1_holdsBytes : aM := (yX1_holdsBytes, cX1_holdsBytes, 1, (some .boolean), 0, 0)
theorem ok_X1_holdsBytes : a_okM M_X1_holdsBytes 0 := ⟨⟨by decide +kernel, by decide +kernel⟩, by decide +kernel, a_in 226 (by decide +kernel) rfl, a_in 78 (by decide +kernel) rfl⟩
theorem dX1_holdsBytes_0 : decode M_X1_holdsBytes.2.1 0 = .ok (.aload_n 0, 1) := by decide +kernel
theorem dX1_holdsBytes_1 : decode M_X1_holdsBytes.2.1 1 = .ok (.getfield 11, 3) := by decide +kernel
theorem dX1_holdsBytes_4 : decode M_X1_holdsBytes.2.1 4 = .ok (.iconst 2, 1) := by decide +kernel
theorem dX1_holdsBytes_5 : decode M_X1_holdsBytes.2.1 5 = .ok (.if_icmp .ne 14, 3) := by decide +kernel
theorem dX1_holdsBytes_8 : decode M_X1_holdsBytes.2.1 8 = .ok (.aload_n 0, 1) := by decide +kernel
theorem dX1_holdsBytes_9 : decode M_X1_holdsBytes.2.1 9 = .ok (.getfield 21, 3) := by decide +kernel
theorem dX1_holdsBytes_12 : decode M_X1_holdsBytes.2.1 12 = .ok (.ifCond .ne 7, 3) := by decide +kernel
theorem dX1_holdsBytes_15 : decode M_X1_holdsBytes.2.1 15 = .ok (.iconst 1, 1) := by decide +kernel
theorem dX1_holdsBytes_16 : decode M_X1_holdsBytes.2.1 16 = .ok (.goto 4, 3) := by decide +kernel
theorem dX1_holdsBytes_19 : decode M_X1_holdsBytes.2.1 19 = .ok (.iconst 0, 1) := by decide +kernel
theorem dX1_holdsBytes_20 : decode M_X1_holdsBytes.2.1 20 = .ok (.ireturn, 1) := by decide +kernel
theorem hs_X1_11 : a_fs RX1 11 1 0 := ⟨RX1, TX1, 6, rfl, tin_X1, by decide, a_in 165 (by decide +kernel) rfl⟩
theorem hs_X1_21 : a_fs RX1 21 1 3 := ⟨RX1, TX1, 6, rfl, tin_X1, by decide, a_in 171 (by decide +kernel) rfl⟩
def f_X1_holdsBytes (a0 : Nat) (w : aW) : Option (Int32 × aW) :=
  (gI 1 w a0 0).bind fun x1 =>
  if ¬ x1 = (2 : Int32) then
    some ((0 : Int32), w)
  else
    (gI 1 w a0 3).bind fun x2 =>
    if ¬ x2 = (0 : Int32) then
      some ((0 : Int32), w)
    else
      some ((1 : Int32), w)
theorem s_X1_holdsBytes (a0 : Nat) (w : aW) : Sp rvI M_X1_holdsBytes [.ref a0] w (f_X1_holdsBytes a0 w) := by
  refine e_entry [some (.ref a0)] (by decide +kernel) (Nat.le_of_ble_eq_true rfl) (fun _ => rfl) ?_
  unfold f_X1_holdsBytes
  refine e_aload_n (pc := 0) dX1_holdsBytes_0 rfl rfl ?_
  refine e_getI (pc := 1) dX1_holdsBytes_1 hs_X1_11 (fun x1 => ?_)
  refine e_iconst (pc := 4) dX1_holdsBytes_4 kc_2 ?_
  refine e_icmp_ne (pc := 5) (tgt := 19) dX1_holdsBytes_5 (by decide) (fun _ => ?_) (fun _ => ?_)
  · refine e_iconst (pc := 19) dX1_holdsBytes_19 kc_0 ?_
    exact e_iret (pc := 20) dX1_holdsBytes_20 rfl (a_nb (by decide))
  · refine e_aload_n (pc := 8) dX1_holdsBytes_8 rfl rfl ?_
    refine e_getI (pc := 9) dX1_holdsBytes_9 hs_X1_21 (fun x2 => ?_)
    refine e_if_ne (pc := 12) (tgt := 19) dX1_holdsBytes_12 (by decide) (fun _ => ?_) (fun _ => ?_)
    · refine e_iconst (pc := 19) dX1_holdsBytes_19 kc_0 ?_
      exact e_iret (pc := 20) dX1_holdsBytes_20 rfl (a_nb (by decide))
    · refine e_iconst (pc := 15) dX1_holdsBytes_15 kc_1 ?_
      refine e_goto (pc := 16) (tgt := 20) dX1_holdsBytes_16 (by decide) ?_
      exact e_iret (pc := 20) dX1_holdsBytes_20 rfl (a_nb (by decide))
def M_X1_rowRefusal : aM := (yX1_rowRefusal, cX1_rowRefusal, 1, (some .int), 0, 0)
theorem ok_X1_rowRefusal : a_okM M_X1_rowRefusal 0 := ⟨⟨by decide +kernel, by decide +kernel⟩, by decide +kernel, a_in 586 (by decide +kernel) rfl, a_in 78 (by decide +kernel) rfl⟩
theorem dX1_rowRefusal_0 : decode M_X1_rowRefusal.2.1 0 = .ok (.aload_n 0, 1) := by decide +kernel
theorem dX1_rowRefusal_1 : decode M_X1_rowRefusal.2.1 1 = .ok (.getfield 11, 3) := by decide +kernel
theorem dX1_rowRefusal_4 : decode M_X1_rowRefusal.2.1 4 = .ok (.ifCond .ne 6, 3) := by decide +kernel
theorem dX1_rowRefusal_7 : decode M_X1_rowRefusal.2.1 7 = .ok (.bipush (-11), 2) := by decide +kernel
theorem dX1_rowRefusal_9 : decode M_X1_rowRefusal.2.1 9 = .ok (.ireturn, 1) := by decide +kernel
theorem dX1_rowRefusal_10 : decode M_X1_rowRefusal.2.1 10 = .ok (.aload_n 0, 1) := by decide +kernel
theorem dX1_rowRefusal_11 : decode M_X1_rowRefusal.2.1 11 = .ok (.getfield 11, 3) := by decide +kernel
theorem dX1_rowRefusal_14 : decode M_X1_rowRefusal.2.1 14 = .ok (.iconst 2, 1) := by decide +kernel
theorem dX1_rowRefusal_15 : decode M_X1_rowRefusal.2.1 15 = .ok (.if_icmp .ne 7, 3) := by decide +kernel
theorem dX1_rowRefusal_18 : decode M_X1_rowRefusal.2.1 18 = .ok (.iconst 0, 1) := by decide +kernel
theorem dX1_rowRefusal_19 : decode M_X1_rowRefusal.2.1 19 = .ok (.goto 5, 3) := by decide +kernel
theorem dX1_rowRefusal_22 : decode M_X1_rowRefusal.2.1 22 = .ok (.bipush (-12), 2) := by decide +kernel
theorem dX1_rowRefusal_24 : decode M_X1_rowRefusal.2.1 24 = .ok (.ireturn, 1) := by decide +kernel
def f_X1_rowRefusal (a0 : Nat) (w : aW) : Option (Int32 × aW) :=
  (gI 1 w a0 0).bind fun x1 =>
  if ¬ x1 = (0 : Int32) then
    (gI 1 w a0 0).bind fun x2 =>
    if ¬ x2 = (2 : Int32) then
      some ((-12 : Int32), w)
    else
      some ((0 : Int32), w)
  else
    some ((-11 : Int32), w)
theorem s_X1_rowRefusal (a0 : Nat) (w : aW) : Sp rvI M_X1_rowRefusal [.ref a0] w (f_X1_rowRefusal a0 w) := by
  refine e_entry [some (.ref a0)] (by decide +kernel) (Nat.le_of_ble_eq_true rfl) (fun _ => rfl) ?_
  unfold f_X1_rowRefusal
  refine e_aload_n (pc := 0) dX1_rowRefusal_0 rfl rfl ?_
  refine e_getI (pc := 1) dX1_rowRefusal_1 hs_X1_11 (fun x1 => ?_)
  refine e_if_ne (pc := 4) (tgt := 10) dX1_rowRefusal_4 (by decide) (fun _ => ?_) (fun _ => ?_)
  · refine e_aload_n (pc := 10) dX1_rowRefusal_10 rfl rfl ?_
    refine e_getI (pc := 11) dX1_rowRefusal_11 hs_X1_11 (fun x2 => ?_)
    refine e_iconst (pc := 14) dX1_rowRefusal_14 kc_2 ?_
    refine e_icmp_ne (pc := 15) (tgt := 22) dX1_rowRefusal_15 (by decide) (fun _ => ?_) (fun _ => ?_)
    · refine e_bipush (pc := 22) dX1_rowRefusal_22 kb_m12 ?_
      exact e_iret (pc := 24) dX1_rowRefusal_24 rfl rfl
    · refine e_iconst (pc := 18) dX1_rowRefusal_18 kc_0 ?_
      refine e_goto (pc := 19) (tgt := 24) dX1_rowRefusal_19 (by decide) ?_
      exact e_iret (pc := 24) dX1_rowRefusal_24 rfl rfl
  · refine e_bipush (pc := 7) dX1_rowRefusal_7 kb_m11 ?_
    exact e_iret (pc := 9) dX1_rowRefusal_9 rfl rfl
def M_X1_beastRefusal : aM := (yX1_beastRefusal, cX1_beastRefusal, 1, (some .int), 0, 0)
theorem ok_X1_beastRefusal : a_okM M_X1_beastRefusal 0 := ⟨⟨by decide +kernel, by decide +kernel⟩, by decide +kernel, a_in 427 (by decide +kernel) rfl, a_in 78 (by decide +kernel) rfl⟩
theorem dX1_beastRefusal_0 : decode M_X1_beastRefusal.2.1 0 = .ok (.aload_n 0, 1) := by decide +kernel
theorem dX1_beastRefusal_1 : decode M_X1_beastRefusal.2.1 1 = .ok (.getfield 11, 3) := by decide +kernel
theorem dX1_beastRefusal_4 : decode M_X1_beastRefusal.2.1 4 = .ok (.ifCond .ne 6, 3) := by decide +kernel
theorem dX1_beastRefusal_7 : decode M_X1_beastRefusal.2.1 7 = .ok (.bipush (-11), 2) := by decide +kernel
theorem dX1_beastRefusal_9 : decode M_X1_beastRefusal.2.1 9 = .ok (.ireturn, 1) := by decide +kernel
theorem dX1_beastRefusal_10 : decode M_X1_beastRefusal.2.1 10 = .ok (.aload_n 0, 1) := by decide +kernel
theorem dX1_beastRefusal_11 : decode M_X1_beastRefusal.2.1 11 = .ok (.getfield 11, 3) := by decide +kernel
theorem dX1_beastRefusal_14 : decode M_X1_beastRefusal.2.1 14 = .ok (.iconst 1, 1) := by decide +kernel
theorem dX1_beastRefusal_15 : decode M_X1_beastRefusal.2.1 15 = .ok (.if_icmp .ne 7, 3) := by decide +kernel
theorem dX1_beastRefusal_18 : decode M_X1_beastRefusal.2.1 18 = .ok (.iconst 0, 1) := by decide +kernel
theorem dX1_beastRefusal_19 : decode M_X1_beastRefusal.2.1 19 = .ok (.goto 5, 3) := by decide +kernel
theorem dX1_beastRefusal_22 : decode M_X1_beastRefusal.2.1 22 = .ok (.bipush (-12), 2) := by decide +kernel
theorem dX1_beastRefusal_24 : decode M_X1_beastRefusal.2.1 24 = .ok (.ireturn, 1) := by decide +kernel
def f_X1_beastRefusal (a0 : Nat) (w : aW) : Option (Int32 × aW) :=
  (gI 1 w a0 0).bind fun x1 =>
  if ¬ x1 = (0 : Int32) then
    (gI 1 w a0 0).bind fun x2 =>
    if ¬ x2 = (1 : Int32) then
      some ((-12 : Int32), w)
    else
      some ((0 : Int32), w)
  else
    some ((-11 : Int32), w)
theorem s_X1_beastRefusal (a0 : Nat) (w : aW) : Sp rvI M_X1_beastRefusal [.ref a0] w (f_X1_beastRefusal a0 w) := by
  refine e_entry [some (.ref a0)] (by decide +kernel) (Nat.le_of_ble_eq_true rfl) (fun _ => rfl) ?_
  unfold f_X1_beastRefusal
  refine e_aload_n (pc := 0) dX1_beastRefusal_0 rfl rfl ?_
  refine e_getI (pc := 1) dX1_beastRefusal_1 hs_X1_11 (fun x1 => ?_)
  refine e_if_ne (pc := 4) (tgt := 10) dX1_beastRefusal_4 (by decide) (fun _ => ?_) (fun _ => ?_)
  · refine e_aload_n (pc := 10) dX1_beastRefusal_10 rfl rfl ?_
    refine e_getI (pc := 11) dX1_beastRefusal_11 hs_X1_11 (fun x2 => ?_)
    refine e_iconst (pc := 14) dX1_beastRefusal_14 kc_1 ?_
    refine e_icmp_ne (pc := 15) (tgt := 22) dX1_beastRefusal_15 (by decide) (fun _ => ?_) (fun _ => ?_)
    · refine e_bipush (pc := 22) dX1_beastRefusal_22 kb_m12 ?_
      exact e_iret (pc := 24) dX1_beastRefusal_24 rfl rfl
    · refine e_iconst (pc := 18) dX1_beastRefusal_18 kc_0 ?_
      refine e_goto (pc := 19) (tgt := 24) dX1_beastRefusal_19 (by decide) ?_
      exact e_iret (pc := 24) dX1_beastRefusal_24 rfl rfl
  · refine e_bipush (pc := 7) dX1_beastRefusal_7 kb_m11 ?_
    exact e_iret (pc := 9) dX1_beastRefusal_9 rfl rfl
def M_X1_at : aM := (yX1_at, cX1_at, 2, (some .int), 1, 22)
theorem ok_X1_at : a_okM M_X1_at 1 := ⟨⟨by decide +kernel, by decide +kernel⟩, by decide +kernel, a_in 233 (by decide +kernel) rfl, a_in 78 (by decide +kernel) rfl⟩
theorem dX1_at_0 : decode M_X1_at.2.1 0 = .ok (.iload_n 1, 1) := by decide +kernel
theorem dX1_at_1 : decode M_X1_at.2.1 1 = .ok (.iconst 0, 1) := by decide +kernel
theorem dX1_at_2 : decode M_X1_at.2.1 2 = .ok (.aload_n 0, 1) := by decide +kernel
theorem dX1_at_3 : decode M_X1_at.2.1 3 = .ok (.getfield 24, 3) := by decide +kernel
theorem dX1_at_6 : decode M_X1_at.2.1 6 = .ok (.iconst 1, 1) := by decide +kernel
theorem dX1_at_7 : decode M_X1_at.2.1 7 = .ok (.isub, 1) := by decide +kernel
theorem dX1_at_8 : decode M_X1_at.2.1 8 = .ok (.invokestatic 46, 3) := by decide +kernel
theorem dX1_at_11 : decode M_X1_at.2.1 11 = .ok (.ifCond .eq 12, 3) := by decide +kernel
theorem dX1_at_14 : decode M_X1_at.2.1 14 = .ok (.aload_n 0, 1) := by decide +kernel
theorem dX1_at_15 : decode M_X1_at.2.1 15 = .ok (.getfield 27, 3) := by decide +kernel
theorem dX1_at_18 : decode M_X1_at.2.1 18 = .ok (.iload_n 1, 1) := by decide +kernel
theorem dX1_at_19 : decode M_X1_at.2.1 19 = .ok (.iaload, 1) := by decide +kernel
theorem dX1_at_20 : decode M_X1_at.2.1 20 = .ok (.goto 4, 3) := by decide +kernel
theorem dX1_at_23 : decode M_X1_at.2.1 23 = .ok (.iconst 0, 1) := by decide +kernel
theorem dX1_at_24 : decode M_X1_at.2.1 24 = .ok (.ireturn, 1) := by decide +kernel
theorem hs_X1_24 : a_fs RX1 24 1 4 := ⟨RX1, TX1, 6, rfl, tin_X1, by decide, a_in 173 (by decide +kernel) rfl⟩
theorem hn_X1_46 : a_okN RX1 M_X3_within 46 := ⟨⟨"WhoeverNamesIt", a_inN 234 (by decide +kernel) rfl⟩, a_in 221 (by decide +kernel) rfl⟩
def f_X1_at (a0 : Nat) (a1 : Int32) (w : aW) : Option (Int32 × aW) :=
  (gI 1 w a0 4).bind fun x1 =>
  bk (f_X3_within a1 (0 : Int32) (x1 - (1 : Int32)) w) fun x3 w2 =>
  if x3 = (0 : Int32) then
    some ((0 : Int32), w2)
  else
    (gR 1 w2 a0 5).bind fun r4 =>
    (gA w2 r4 a1).bind fun x5 =>
    some (x5, w2)
theorem s_X1_at (a0 : Nat) (a1 : Int32) (w : aW) : Sp rvI M_X1_at [.ref a0, .int a1] w (f_X1_at a0 a1 w) := by
  refine e_entry [some (.ref a0), some (.int a1)] (by decide +kernel) (Nat.le_of_ble_eq_true rfl) (fun _ => rfl) ?_
  unfold f_X1_at
  refine e_iload_n (pc := 0) dX1_at_0 rfl rfl ?_
  refine e_iconst (pc := 1) dX1_at_1 kc_0 ?_
  refine e_aload_n (pc := 2) dX1_at_2 rfl rfl ?_
  refine e_getI (pc := 3) dX1_at_3 hs_X1_24 (fun x1 => ?_)
  refine e_iconst (pc := 6) dX1_at_6 kc_1 ?_
  refine e_isub (pc := 7) dX1_at_7 ?_
  refine e_callN (pc := 8) (av := [.int a1, .int (0 : Int32), .int (x1 - (1 : Int32))]) (S := []) ok_X3_within ⟨Nat.le_of_ble_eq_true rfl, Nat.le_of_ble_eq_true rfl⟩ hn_X1_46 dX1_at_8 (s_X3_within a1 (0 : Int32) (x1 - (1 : Int32)) w) rfl rfl (Nat.le_of_ble_eq_true rfl) (fun x3 w2 => ?_)
  refine e_if_eq (pc := 11) (tgt := 23) dX1_at_11 (by decide) (fun _ => ?_) (fun _ => ?_)
  · refine e_iconst (pc := 23) dX1_at_23 kc_0 ?_
    exact e_iret (pc := 24) dX1_at_24 rfl rfl
  · refine e_aload_n (pc := 14) dX1_at_14 rfl rfl ?_
    refine e_getR (pc := 15) dX1_at_15 hs_X1_27 (fun r4 => ?_)
    refine e_iload_n (pc := 18) dX1_at_18 rfl rfl ?_
    refine e_iald (pc := 19) dX1_at_19 (fun x5 => ?_)
    refine e_goto (pc := 20) (tgt := 24) dX1_at_20 (by decide) ?_
    exact e_iret (pc := 24) dX1_at_24 rfl rfl
def M_X1_set : aM := (yX1_set, cX1_set, 3, none, 1, 22)
theorem ok_X1_set : a_okM M_X1_set 2 := ⟨⟨by decide +kernel, by decide +kernel⟩, by decide +kernel, a_in 718 (by decide +kernel) rfl, a_in 78 (by decide +kernel) rfl⟩
theorem dX1_set_0 : decode M_X1_set.2.1 0 = .ok (.iload_n 1, 1) := by decide +kernel
theorem dX1_set_1 : decode M_X1_set.2.1 1 = .ok (.iconst 0, 1) := by decide +kernel
theorem dX1_set_2 : decode M_X1_set.2.1 2 = .ok (.aload_n 0, 1) := by decide +kernel
theorem dX1_set_3 : decode M_X1_set.2.1 3 = .ok (.getfield 24, 3) := by decide +kernel
theorem dX1_set_6 : decode M_X1_set.2.1 6 = .ok (.iconst 1, 1) := by decide +kernel
theorem dX1_set_7 : decode M_X1_set.2.1 7 = .ok (.isub, 1) := by decide +kernel
theorem dX1_set_8 : decode M_X1_set.2.1 8 = .ok (.invokestatic 46, 3) := by decide +kernel
theorem dX1_set_11 : decode M_X1_set.2.1 11 = .ok (.ifCond .ne 4, 3) := by decide +kernel
theorem dX1_set_14 : decode M_X1_set.2.1 14 = .ok (.return_, 1) := by decide +kernel
theorem dX1_set_15 : decode M_X1_set.2.1 15 = .ok (.aload_n 0, 1) := by decide +kernel
theorem dX1_set_16 : decode M_X1_set.2.1 16 = .ok (.getfield 21, 3) := by decide +kernel
theorem dX1_set_19 : decode M_X1_set.2.1 19 = .ok (.lookupswitch 47 #[(0, 25), (1, 36)], 25) := by decide +kernel
theorem dX1_set_44 : decode M_X1_set.2.1 44 = .ok (.aload_n 0, 1) := by decide +kernel
theorem dX1_set_45 : decode M_X1_set.2.1 45 = .ok (.getfield 27, 3) := by decide +kernel
theorem dX1_set_48 : decode M_X1_set.2.1 48 = .ok (.iload_n 1, 1) := by decide +kernel
theorem dX1_set_49 : decode M_X1_set.2.1 49 = .ok (.iload_n 2, 1) := by decide +kernel
theorem dX1_set_50 : decode M_X1_set.2.1 50 = .ok (.i2b, 1) := by decide +kernel
theorem dX1_set_51 : decode M_X1_set.2.1 51 = .ok (.iastore, 1) := by decide +kernel
theorem dX1_set_52 : decode M_X1_set.2.1 52 = .ok (.goto 21, 3) := by decide +kernel
theorem dX1_set_55 : decode M_X1_set.2.1 55 = .ok (.aload_n 0, 1) := by decide +kernel
theorem dX1_set_56 : decode M_X1_set.2.1 56 = .ok (.getfield 27, 3) := by decide +kernel
theorem dX1_set_59 : decode M_X1_set.2.1 59 = .ok (.iload_n 1, 1) := by decide +kernel
theorem dX1_set_60 : decode M_X1_set.2.1 60 = .ok (.iload_n 2, 1) := by decide +kernel
theorem dX1_set_61 : decode M_X1_set.2.1 61 = .ok (.i2s, 1) := by decide +kernel
theorem dX1_set_62 : decode M_X1_set.2.1 62 = .ok (.iastore, 1) := by decide +kernel
theorem dX1_set_63 : decode M_X1_set.2.1 63 = .ok (.goto 10, 3) := by decide +kernel
theorem dX1_set_66 : decode M_X1_set.2.1 66 = .ok (.aload_n 0, 1) := by decide +kernel
theorem dX1_set_67 : decode M_X1_set.2.1 67 = .ok (.getfield 27, 3) := by decide +kernel
theorem dX1_set_70 : decode M_X1_set.2.1 70 = .ok (.iload_n 1, 1) := by decide +kernel
theorem dX1_set_71 : decode M_X1_set.2.1 71 = .ok (.iload_n 2, 1) := by decide +kernel
theorem dX1_set_72 : decode M_X1_set.2.1 72 = .ok (.iastore, 1) := by decide +kernel
theorem dX1_set_73 : decode M_X1_set.2.1 73 = .ok (.return_, 1) := by decide +kernel
def f_X1_set (a0 : Nat) (a1 : Int32) (a2 : Int32) (w : aW) : Option (Unit × aW) :=
  (gI 1 w a0 4).bind fun x1 =>
  bk (f_X3_within a1 (0 : Int32) (x1 - (1 : Int32)) w) fun x3 w2 =>
  if ¬ x3 = (0 : Int32) then
    (gI 1 w2 a0 3).bind fun x4 =>
    if x4 = (0 : Int32) then
      (gR 1 w2 a0 5).bind fun r6 =>
      (sA w2 r6 a1 a2.toInt8.toInt32).bind fun w7 =>
      some ((), w7)
    else
      if x4 = (1 : Int32) then
        (gR 1 w2 a0 5).bind fun r9 =>
        (sA w2 r9 a1 a2.toInt16.toInt32).bind fun w10 =>
        some ((), w10)
      else
        (gR 1 w2 a0 5).bind fun r11 =>
        (sA w2 r11 a1 a2).bind fun w12 =>
        some ((), w12)
  else
    some ((), w2)
theorem s_X1_set (a0 : Nat) (a1 : Int32) (a2 : Int32) (w : aW) : Sp rvV M_X1_set [.ref a0, .int a1, .int a2] w (f_X1_set a0 a1 a2 w) := by
  refine e_entry [some (.ref a0), some (.int a1), some (.int a2)] (by decide +kernel) (Nat.le_of_ble_eq_true rfl) (fun _ => rfl) ?_
  unfold f_X1_set
  refine e_iload_n (pc := 0) dX1_set_0 rfl rfl ?_
  refine e_iconst (pc := 1) dX1_set_1 kc_0 ?_
  refine e_aload_n (pc := 2) dX1_set_2 rfl rfl ?_
  refine e_getI (pc := 3) dX1_set_3 hs_X1_24 (fun x1 => ?_)
  refine e_iconst (pc := 6) dX1_set_6 kc_1 ?_
  refine e_isub (pc := 7) dX1_set_7 ?_
  refine e_callN (pc := 8) (av := [.int a1, .int (0 : Int32), .int (x1 - (1 : Int32))]) (S := []) ok_X3_within ⟨Nat.le_of_ble_eq_true rfl, Nat.le_of_ble_eq_true rfl⟩ hn_X1_46 dX1_set_8 (s_X3_within a1 (0 : Int32) (x1 - (1 : Int32)) w) rfl rfl (Nat.le_of_ble_eq_true rfl) (fun x3 w2 => ?_)
  refine e_if_ne (pc := 11) (tgt := 15) dX1_set_11 (by decide) (fun _ => ?_) (fun _ => ?_)
  · refine e_aload_n (pc := 15) dX1_set_15 rfl rfl ?_
    refine e_getI (pc := 16) dX1_set_16 hs_X1_21 (fun x4 => ?_)
    refine e_ite (fun h5 => ?_) (fun h5 => ?_)
    · refine e_lookIn (pc := 19) (v := 0) (off := 25) (tgt := 44) dX1_set_19 (by decide) h5 (by decide) (by decide) ?_
      refine e_aload_n (pc := 44) dX1_set_44 rfl rfl ?_
      refine e_getR (pc := 45) dX1_set_45 hs_X1_27 (fun r6 => ?_)
      refine e_iload_n (pc := 48) dX1_set_48 rfl rfl ?_
      refine e_iload_n (pc := 49) dX1_set_49 rfl rfl ?_
      refine e_i2b (pc := 50) dX1_set_50 ?_
      refine e_iast (pc := 51) dX1_set_51 (fun w7 => ?_)
      refine e_goto (pc := 52) (tgt := 73) dX1_set_52 (by decide) ?_
      exact e_vret (pc := 73) dX1_set_73 rfl
    · refine e_ite (fun h8 => ?_) (fun h8 => ?_)
      · refine e_lookIn (pc := 19) (v := 1) (off := 36) (tgt := 55) dX1_set_19 (by decide) h8 (by decide) (by decide) ?_
        refine e_aload_n (pc := 55) dX1_set_55 rfl rfl ?_
        refine e_getR (pc := 56) dX1_set_56 hs_X1_27 (fun r9 => ?_)
        refine e_iload_n (pc := 59) dX1_set_59 rfl rfl ?_
        refine e_iload_n (pc := 60) dX1_set_60 rfl rfl ?_
        refine e_i2s (pc := 61) dX1_set_61 ?_
        refine e_iast (pc := 62) dX1_set_62 (fun w10 => ?_)
        refine e_goto (pc := 63) (tgt := 73) dX1_set_63 (by decide) ?_
        exact e_vret (pc := 73) dX1_set_73 rfl
      · refine e_lookOut (pc := 19) (off := 47) (tgt := 66) dX1_set_19 (by decide) (by rw [lv_osw h5 (show (0 : Int32).toInt = 0 from rfl), lv_osw h8 (show (1 : Int32).toInt = 1 from rfl)]; first | done | rfl) (by decide) ?_
        refine e_aload_n (pc := 66) dX1_set_66 rfl rfl ?_
        refine e_getR (pc := 67) dX1_set_67 hs_X1_27 (fun r11 => ?_)
        refine e_iload_n (pc := 70) dX1_set_70 rfl rfl ?_
        refine e_iload_n (pc := 71) dX1_set_71 rfl rfl ?_
        refine e_iast (pc := 72) dX1_set_72 (fun w12 => ?_)
        exact e_vret (pc := 73) dX1_set_73 rfl
  · exact e_vret (pc := 14) dX1_set_14 rfl
def M_X1_tells : aM := (yX1_tells, cX1_tells, 2, (some .boolean), 2, 43)
theorem ok_X1_tells : a_okM M_X1_tells 1 := ⟨⟨by decide +kernel, by decide +kernel⟩, by decide +kernel, a_in 598 (by decide +kernel) rfl, a_in 78 (by decide +kernel) rfl⟩
theorem dX1_tells_0 : decode M_X1_tells.2.1 0 = .ok (.aload_n 0, 1) := by decide +kernel
theorem dX1_tells_1 : decode M_X1_tells.2.1 1 = .ok (.getfield 21, 3) := by decide +kernel
theorem dX1_tells_4 : decode M_X1_tells.2.1 4 = .ok (.lookupswitch 61 #[(0, 28), (1, 44)], 28) := by decide +kernel
theorem dX1_tells_32 : decode M_X1_tells.2.1 32 = .ok (.aload_n 0, 1) := by decide +kernel
theorem dX1_tells_33 : decode M_X1_tells.2.1 33 = .ok (.iload_n 1, 1) := by decide +kernel
theorem dX1_tells_34 : decode M_X1_tells.2.1 34 = .ok (.invokevirtual 50, 3) := by decide +kernel
theorem dX1_tells_37 : decode M_X1_tells.2.1 37 = .ok (.bipush (-128), 2) := by decide +kernel
theorem dX1_tells_39 : decode M_X1_tells.2.1 39 = .ok (.if_icmp .eq 7, 3) := by decide +kernel
theorem dX1_tells_42 : decode M_X1_tells.2.1 42 = .ok (.iconst 1, 1) := by decide +kernel
theorem dX1_tells_43 : decode M_X1_tells.2.1 43 = .ok (.goto 4, 3) := by decide +kernel
theorem dX1_tells_46 : decode M_X1_tells.2.1 46 = .ok (.iconst 0, 1) := by decide +kernel
theorem dX1_tells_47 : decode M_X1_tells.2.1 47 = .ok (.ireturn, 1) := by decide +kernel
theorem dX1_tells_48 : decode M_X1_tells.2.1 48 = .ok (.aload_n 0, 1) := by decide +kernel
theorem dX1_tells_49 : decode M_X1_tells.2.1 49 = .ok (.iload_n 1, 1) := by decide +kernel
theorem dX1_tells_50 : decode M_X1_tells.2.1 50 = .ok (.invokevirtual 50, 3) := by decide +kernel
theorem dX1_tells_53 : decode M_X1_tells.2.1 53 = .ok (.sipush (-32768), 3) := by decide +kernel
theorem dX1_tells_56 : decode M_X1_tells.2.1 56 = .ok (.if_icmp .eq 7, 3) := by decide +kernel
theorem dX1_tells_59 : decode M_X1_tells.2.1 59 = .ok (.iconst 1, 1) := by decide +kernel
theorem dX1_tells_60 : decode M_X1_tells.2.1 60 = .ok (.goto 4, 3) := by decide +kernel
theorem dX1_tells_63 : decode M_X1_tells.2.1 63 = .ok (.iconst 0, 1) := by decide +kernel
theorem dX1_tells_64 : decode M_X1_tells.2.1 64 = .ok (.ireturn, 1) := by decide +kernel
theorem dX1_tells_65 : decode M_X1_tells.2.1 65 = .ok (.aload_n 0, 1) := by decide +kernel
theorem dX1_tells_66 : decode M_X1_tells.2.1 66 = .ok (.iload_n 1, 1) := by decide +kernel
theorem dX1_tells_67 : decode M_X1_tells.2.1 67 = .ok (.invokevirtual 50, 3) := by decide +kernel
theorem dX1_tells_70 : decode M_X1_tells.2.1 70 = .ok (.ldc 54, 2) := by decide +kernel
theorem dX1_tells_72 : decode M_X1_tells.2.1 72 = .ok (.if_icmp .eq 7, 3) := by decide +kernel
theorem dX1_tells_75 : decode M_X1_tells.2.1 75 = .ok (.iconst 1, 1) := by decide +kernel
theorem dX1_tells_76 : decode M_X1_tells.2.1 76 = .ok (.goto 4, 3) := by decide +kernel
theorem dX1_tells_79 : decode M_X1_tells.2.1 79 = .ok (.iconst 0, 1) := by decide +kernel
theorem dX1_tells_80 : decode M_X1_tells.2.1 80 = .ok (.ireturn, 1) := by decide +kernel
theorem hv_X1_50 : a_okV RX1 M_X1_at 50 := ⟨a_in 257 (by decide +kernel) rfl, a_in 231 (by decide +kernel) rfl, a_in 232 (by decide +kernel) rfl⟩
def f_X1_tells (a0 : Nat) (a1 : Int32) (w : aW) : Option (Int32 × aW) :=
  (gI 1 w a0 3).bind fun x1 =>
  if x1 = (0 : Int32) then
    cV 1 w a0 (bk (f_X1_at a0 a1 w) fun x4 w3 =>
    if x4 = (-128 : Int32) then
      some ((0 : Int32), w3)
    else
      some ((1 : Int32), w3))
  else
    if x1 = (1 : Int32) then
      cV 1 w a0 (bk (f_X1_at a0 a1 w) fun x7 w6 =>
      if x7 = (-32768 : Int32) then
        some ((0 : Int32), w6)
      else
        some ((1 : Int32), w6))
    else
      cV 1 w a0 (bk (f_X1_at a0 a1 w) fun x9 w8 =>
      if x9 = (-2147483648 : Int32) then
        some ((0 : Int32), w8)
      else
        some ((1 : Int32), w8))
theorem s_X1_tells (a0 : Nat) (a1 : Int32) (w : aW) : Sp rvI M_X1_tells [.ref a0, .int a1] w (f_X1_tells a0 a1 w) := by
  refine e_entry [some (.ref a0), some (.int a1)] (by decide +kernel) (Nat.le_of_ble_eq_true rfl) (fun _ => rfl) ?_
  unfold f_X1_tells
  refine e_aload_n (pc := 0) dX1_tells_0 rfl rfl ?_
  refine e_getI (pc := 1) dX1_tells_1 hs_X1_21 (fun x1 => ?_)
  refine e_ite (fun h2 => ?_) (fun h2 => ?_)
  · refine e_lookIn (pc := 4) (v := 0) (off := 28) (tgt := 32) dX1_tells_4 (by decide) h2 (by decide) (by decide) ?_
    refine e_aload_n (pc := 32) dX1_tells_32 rfl rfl ?_
    refine e_iload_n (pc := 33) dX1_tells_33 rfl rfl ?_
    refine e_callV (pc := 34) (av := [.int a1]) (S := []) (c0 := 1) rfl rfl ok_X1_at ⟨Nat.le_of_ble_eq_true rfl, Nat.le_of_ble_eq_true rfl⟩ hv_X1_50 dX1_tells_34 (s_X1_at a0 a1 w) rfl rfl (Nat.le_of_ble_eq_true rfl) (fun x4 w3 => ?_)
    refine e_bipush (pc := 37) dX1_tells_37 kb_m128 ?_
    refine e_icmp_eq (pc := 39) (tgt := 46) dX1_tells_39 (by decide) (fun _ => ?_) (fun _ => ?_)
    · refine e_iconst (pc := 46) dX1_tells_46 kc_0 ?_
      exact e_iret (pc := 47) dX1_tells_47 rfl (a_nb (by decide))
    · refine e_iconst (pc := 42) dX1_tells_42 kc_1 ?_
      refine e_goto (pc := 43) (tgt := 47) dX1_tells_43 (by decide) ?_
      exact e_iret (pc := 47) dX1_tells_47 rfl (a_nb (by decide))
  · refine e_ite (fun h5 => ?_) (fun h5 => ?_)
    · refine e_lookIn (pc := 4) (v := 1) (off := 44) (tgt := 48) dX1_tells_4 (by decide) h5 (by decide) (by decide) ?_
      refine e_aload_n (pc := 48) dX1_tells_48 rfl rfl ?_
      refine e_iload_n (pc := 49) dX1_tells_49 rfl rfl ?_
      refine e_callV (pc := 50) (av := [.int a1]) (S := []) (c0 := 1) rfl rfl ok_X1_at ⟨Nat.le_of_ble_eq_true rfl, Nat.le_of_ble_eq_true rfl⟩ hv_X1_50 dX1_tells_50 (s_X1_at a0 a1 w) rfl rfl (Nat.le_of_ble_eq_true rfl) (fun x7 w6 => ?_)
      refine e_sipush (pc := 53) dX1_tells_53 ks_m32768 ?_
      refine e_icmp_eq (pc := 56) (tgt := 63) dX1_tells_56 (by decide) (fun _ => ?_) (fun _ => ?_)
      · refine e_iconst (pc := 63) dX1_tells_63 kc_0 ?_
        exact e_iret (pc := 64) dX1_tells_64 rfl (a_nb (by decide))
      · refine e_iconst (pc := 59) dX1_tells_59 kc_1 ?_
        refine e_goto (pc := 60) (tgt := 64) dX1_tells_60 (by decide) ?_
        exact e_iret (pc := 64) dX1_tells_64 rfl (a_nb (by decide))
    · refine e_lookOut (pc := 4) (off := 61) (tgt := 65) dX1_tells_4 (by decide) (by rw [lv_osw h2 (show (0 : Int32).toInt = 0 from rfl), lv_osw h5 (show (1 : Int32).toInt = 1 from rfl)]; first | done | rfl) (by decide) ?_
      refine e_aload_n (pc := 65) dX1_tells_65 rfl rfl ?_
      refine e_iload_n (pc := 66) dX1_tells_66 rfl rfl ?_
      refine e_callV (pc := 67) (av := [.int a1]) (S := []) (c0 := 1) rfl rfl ok_X1_at ⟨Nat.le_of_ble_eq_true rfl, Nat.le_of_ble_eq_true rfl⟩ hv_X1_50 dX1_tells_67 (s_X1_at a0 a1 w) rfl rfl (Nat.le_of_ble_eq_true rfl) (fun x9 w8 => ?_)
      refine e_ldc (pc := 70) (v := -2147483648) dX1_tells_70 (a_in 599 (by decide +kernel) rfl) ?_
      refine e_icmp_eq (pc := 72) (tgt := 79) dX1_tells_72 (by decide) (fun _ => ?_) (fun _ => ?_)
      · refine e_iconst (pc := 79) dX1_tells_79 kc_0 ?_
        exact e_iret (pc := 80) dX1_tells_80 rfl (a_nb (by decide))
      · refine e_iconst (pc := 75) dX1_tells_75 kc_1 ?_
        refine e_goto (pc := 76) (tgt := 80) dX1_tells_76 (by decide) ?_
        exact e_iret (pc := 80) dX1_tells_80 rfl (a_nb (by decide))
def M_X1_hasStretch : aM := (yX1_hasStretch, cX1_hasStretch, 3, (some .boolean), 1, 22)
theorem ok_X1_hasStretch : a_okM M_X1_hasStretch 2 := ⟨⟨by decide +kernel, by decide +kernel⟩, by decide +kernel, a_in 726 (by decide +kernel) rfl, a_in 78 (by decide +kernel) rfl⟩
theorem dX1_hasStretch_0 : decode M_X1_hasStretch.2.1 0 = .ok (.iload_n 2, 1) := by decide +kernel
theorem dX1_hasStretch_1 : decode M_X1_hasStretch.2.1 1 = .ok (.ifCond .lt 29, 3) := by decide +kernel
theorem dX1_hasStretch_4 : decode M_X1_hasStretch.2.1 4 = .ok (.iload_n 1, 1) := by decide +kernel
theorem dX1_hasStretch_5 : decode M_X1_hasStretch.2.1 5 = .ok (.iconst 0, 1) := by decide +kernel
theorem dX1_hasStretch_6 : decode M_X1_hasStretch.2.1 6 = .ok (.aload_n 0, 1) := by decide +kernel
theorem dX1_hasStretch_7 : decode M_X1_hasStretch.2.1 7 = .ok (.getfield 24, 3) := by decide +kernel
theorem dX1_hasStretch_10 : decode M_X1_hasStretch.2.1 10 = .ok (.invokestatic 46, 3) := by decide +kernel
theorem dX1_hasStretch_13 : decode M_X1_hasStretch.2.1 13 = .ok (.ifCond .eq 17, 3) := by decide +kernel
theorem dX1_hasStretch_16 : decode M_X1_hasStretch.2.1 16 = .ok (.iload_n 2, 1) := by decide +kernel
theorem dX1_hasStretch_17 : decode M_X1_hasStretch.2.1 17 = .ok (.aload_n 0, 1) := by decide +kernel
theorem dX1_hasStretch_18 : decode M_X1_hasStretch.2.1 18 = .ok (.getfield 24, 3) := by decide +kernel
theorem dX1_hasStretch_21 : decode M_X1_hasStretch.2.1 21 = .ok (.iload_n 1, 1) := by decide +kernel
theorem dX1_hasStretch_22 : decode M_X1_hasStretch.2.1 22 = .ok (.isub, 1) := by decide +kernel
theorem dX1_hasStretch_23 : decode M_X1_hasStretch.2.1 23 = .ok (.if_icmp .gt 7, 3) := by decide +kernel
theorem dX1_hasStretch_26 : decode M_X1_hasStretch.2.1 26 = .ok (.iconst 1, 1) := by decide +kernel
theorem dX1_hasStretch_27 : decode M_X1_hasStretch.2.1 27 = .ok (.goto 4, 3) := by decide +kernel
theorem dX1_hasStretch_30 : decode M_X1_hasStretch.2.1 30 = .ok (.iconst 0, 1) := by decide +kernel
theorem dX1_hasStretch_31 : decode M_X1_hasStretch.2.1 31 = .ok (.ireturn, 1) := by decide +kernel
def f_X1_hasStretch (a0 : Nat) (a1 : Int32) (a2 : Int32) (w : aW) : Option (Int32 × aW) :=
  if a2 < (0 : Int32) then
    some ((0 : Int32), w)
  else
    (gI 1 w a0 4).bind fun x1 =>
    bk (f_X3_within a1 (0 : Int32) x1 w) fun x3 w2 =>
    if x3 = (0 : Int32) then
      some ((0 : Int32), w2)
    else
      (gI 1 w2 a0 4).bind fun x4 =>
      if (x4 - a1) < a2 then
        some ((0 : Int32), w2)
      else
        some ((1 : Int32), w2)
theorem s_X1_hasStretch (a0 : Nat) (a1 : Int32) (a2 : Int32) (w : aW) : Sp rvI M_X1_hasStretch [.ref a0, .int a1, .int a2] w (f_X1_hasStretch a0 a1 a2 w) := by
  refine e_entry [some (.ref a0), some (.int a1), some (.int a2)] (by decide +kernel) (Nat.le_of_ble_eq_true rfl) (fun _ => rfl) ?_
  unfold f_X1_hasStretch
  refine e_iload_n (pc := 0) dX1_hasStretch_0 rfl rfl ?_
  refine e_if_lt (pc := 1) (tgt := 30) dX1_hasStretch_1 (by decide) (fun _ => ?_) (fun _ => ?_)
  · refine e_iconst (pc := 30) dX1_hasStretch_30 kc_0 ?_
    exact e_iret (pc := 31) dX1_hasStretch_31 rfl (a_nb (by decide))
  · refine e_iload_n (pc := 4) dX1_hasStretch_4 rfl rfl ?_
    refine e_iconst (pc := 5) dX1_hasStretch_5 kc_0 ?_
    refine e_aload_n (pc := 6) dX1_hasStretch_6 rfl rfl ?_
    refine e_getI (pc := 7) dX1_hasStretch_7 hs_X1_24 (fun x1 => ?_)
    refine e_callN (pc := 10) (av := [.int a1, .int (0 : Int32), .int x1]) (S := []) ok_X3_within ⟨Nat.le_of_ble_eq_true rfl, Nat.le_of_ble_eq_true rfl⟩ hn_X1_46 dX1_hasStretch_10 (s_X3_within a1 (0 : Int32) x1 w) rfl rfl (Nat.le_of_ble_eq_true rfl) (fun x3 w2 => ?_)
    refine e_if_eq (pc := 13) (tgt := 30) dX1_hasStretch_13 (by decide) (fun _ => ?_) (fun _ => ?_)
    · refine e_iconst (pc := 30) dX1_hasStretch_30 kc_0 ?_
      exact e_iret (pc := 31) dX1_hasStretch_31 rfl (a_nb (by decide))
    · refine e_iload_n (pc := 16) dX1_hasStretch_16 rfl rfl ?_
      refine e_aload_n (pc := 17) dX1_hasStretch_17 rfl rfl ?_
      refine e_getI (pc := 18) dX1_hasStretch_18 hs_X1_24 (fun x4 => ?_)
      refine e_iload_n (pc := 21) dX1_hasStretch_21 rfl rfl ?_
      refine e_isub (pc := 22) dX1_hasStretch_22 ?_
      refine e_icmp_gt (pc := 23) (tgt := 30) dX1_hasStretch_23 (by decide) (fun _ => ?_) (fun _ => ?_)
      · refine e_iconst (pc := 30) dX1_hasStretch_30 kc_0 ?_
        exact e_iret (pc := 31) dX1_hasStretch_31 rfl (a_nb (by decide))
      · refine e_iconst (pc := 26) dX1_hasStretch_26 kc_1 ?_
        refine e_goto (pc := 27) (tgt := 31) dX1_hasStretch_27 (by decide) ?_
        exact e_iret (pc := 31) dX1_hasStretch_31 rfl (a_nb (by decide))
def M_X1_number : aM := (yX1_number, cX1_number, 5, (some .int), 2, 43)
theorem ok_X1_number : a_okM M_X1_number 2 := ⟨⟨by decide +kernel, by decide +kernel⟩, by decide +kernel, a_in 256 (by decide +kernel) rfl, a_in 78 (by decide +kernel) rfl⟩
theorem dX1_number_0 : decode M_X1_number.2.1 0 = .ok (.iconst 0, 1) := by decide +kernel
theorem dX1_number_1 : decode M_X1_number.2.1 1 = .ok (.istore_n 3, 1) := by decide +kernel
theorem dX1_number_2 : decode M_X1_number.2.1 2 = .ok (.iconst 0, 1) := by decide +kernel
theorem dX1_number_3 : decode M_X1_number.2.1 3 = .ok (.istore 4, 2) := by decide +kernel
theorem dX1_number_5 : decode M_X1_number.2.1 5 = .ok (.iload 4, 2) := by decide +kernel
theorem dX1_number_7 : decode M_X1_number.2.1 7 = .ok (.iload_n 2, 1) := by decide +kernel
theorem dX1_number_8 : decode M_X1_number.2.1 8 = .ok (.if_icmp .ge 26, 3) := by decide +kernel
theorem dX1_number_11 : decode M_X1_number.2.1 11 = .ok (.iload_n 3, 1) := by decide +kernel
theorem dX1_number_12 : decode M_X1_number.2.1 12 = .ok (.bipush 10, 2) := by decide +kernel
theorem dX1_number_14 : decode M_X1_number.2.1 14 = .ok (.imul, 1) := by decide +kernel
theorem dX1_number_15 : decode M_X1_number.2.1 15 = .ok (.aload_n 0, 1) := by decide +kernel
theorem dX1_number_16 : decode M_X1_number.2.1 16 = .ok (.iload_n 1, 1) := by decide +kernel
theorem dX1_number_17 : decode M_X1_number.2.1 17 = .ok (.iload 4, 2) := by decide +kernel
theorem dX1_number_19 : decode M_X1_number.2.1 19 = .ok (.iadd, 1) := by decide +kernel
theorem dX1_number_20 : decode M_X1_number.2.1 20 = .ok (.invokevirtual 50, 3) := by decide +kernel
theorem dX1_number_23 : decode M_X1_number.2.1 23 = .ok (.iadd, 1) := by decide +kernel
theorem dX1_number_24 : decode M_X1_number.2.1 24 = .ok (.bipush 48, 2) := by decide +kernel
theorem dX1_number_26 : decode M_X1_number.2.1 26 = .ok (.isub, 1) := by decide +kernel
theorem dX1_number_27 : decode M_X1_number.2.1 27 = .ok (.istore_n 3, 1) := by decide +kernel
theorem dX1_number_28 : decode M_X1_number.2.1 28 = .ok (.iinc 4 1, 3) := by decide +kernel
theorem dX1_number_31 : decode M_X1_number.2.1 31 = .ok (.goto (-26), 3) := by decide +kernel
theorem dX1_number_34 : decode M_X1_number.2.1 34 = .ok (.iload_n 3, 1) := by decide +kernel
theorem dX1_number_35 : decode M_X1_number.2.1 35 = .ok (.ireturn, 1) := by decide +kernel
def c_X1_number_5 (a0 : Nat) (a1 : Int32) (a2 : Int32) (k5 : Int32 → Int32 → aW → Option (Int32 × aW)) (b3 : Int32) (b4 : Int32) (w : aW) : Option (Int32 × aW) :=
  if a2 ≤ b4 then
    some (b3, w)
  else
    cV 1 w a0 (bk (f_X1_at a0 (a1 + b4) w) fun x2 w1 =>
    k5 (((b3 * (10 : Int32)) + x2) - (48 : Int32)) (b4 + 1) w1)
theorem t_X1_number_5 (a0 : Nat) (a1 : Int32) (a2 : Int32) (k5 : Int32 → Int32 → aW → Option (Int32 × aW)) (hk5 : ∀ (b3 : Int32) (b4 : Int32) (w : aW), Ev rvI M_X1_number 5 [some (.ref a0), some (.int a1), some (.int a2), some (.int b3), some (.int b4)] [] w (k5 b3 b4 w)) (b3 : Int32) (b4 : Int32) (w : aW) : Ev rvI M_X1_number 5 [some (.ref a0), some (.int a1), some (.int a2), some (.int b3), some (.int b4)] [] w (c_X1_number_5 a0 a1 a2 k5 b3 b4 w) := by
  unfold c_X1_number_5
  refine e_iload (pc := 5) dX1_number_5 rfl ?_
  refine e_iload_n (pc := 7) dX1_number_7 rfl rfl ?_
  refine e_icmp_ge (pc := 8) (tgt := 34) dX1_number_8 (by decide) (fun _ => ?_) (fun _ => ?_)
  · refine e_iload_n (pc := 34) dX1_number_34 rfl rfl ?_
    exact e_iret (pc := 35) dX1_number_35 rfl rfl
  · refine e_iload_n (pc := 11) dX1_number_11 rfl rfl ?_
    refine e_bipush (pc := 12) dX1_number_12 kb_10 ?_
    refine e_imul (pc := 14) dX1_number_14 ?_
    refine e_aload_n (pc := 15) dX1_number_15 rfl rfl ?_
    refine e_iload_n (pc := 16) dX1_number_16 rfl rfl ?_
    refine e_iload (pc := 17) dX1_number_17 rfl ?_
    refine e_iadd (pc := 19) dX1_number_19 ?_
    refine e_callV (pc := 20) (av := [.int (a1 + b4)]) (S := [.int (b3 * (10 : Int32))]) (c0 := 1) rfl rfl ok_X1_at ⟨Nat.le_of_ble_eq_true rfl, Nat.le_of_ble_eq_true rfl⟩ hv_X1_50 dX1_number_20 (s_X1_at a0 (a1 + b4) w) rfl rfl (Nat.le_of_ble_eq_true rfl) (fun x2 w1 => ?_)
    refine e_iadd (pc := 23) dX1_number_23 ?_
    refine e_bipush (pc := 24) dX1_number_24 kb_48 ?_
    refine e_isub (pc := 26) dX1_number_26 ?_
    refine e_istore_n (L' := [some (.ref a0), some (.int a1), some (.int a2), some (.int (((b3 * (10 : Int32)) + x2) - (48 : Int32))), some (.int b4)]) (pc := 27) dX1_number_27 rfl (by decide) rfl ?_
    refine e_iinc (L' := [some (.ref a0), some (.int a1), some (.int a2), some (.int (((b3 * (10 : Int32)) + x2) - (48 : Int32))), some (.int (b4 + 1))]) (pc := 28) (v := 1) dX1_number_28 (by decide) rfl kc_1 rfl ?_
    refine e_goto (pc := 31) (tgt := 5) dX1_number_31 (by decide) ?_
    exact hk5 (((b3 * (10 : Int32)) + x2) - (48 : Int32)) (b4 + 1) w1
def f_X1_number (a0 : Nat) (a1 : Int32) (a2 : Int32) (w : aW) : Option (Int32 × aW) :=
  loop3 (c_X1_number_5 a0 a1 a2) a_fuel (0 : Int32) (0 : Int32) w
theorem s_X1_number (a0 : Nat) (a1 : Int32) (a2 : Int32) (w : aW) : Sp rvI M_X1_number [.ref a0, .int a1, .int a2] w (f_X1_number a0 a1 a2 w) := by
  refine e_entry [some (.ref a0), some (.int a1), some (.int a2), none, none] (by decide +kernel) (Nat.le_of_ble_eq_true rfl) (fun _ => rfl) ?_
  unfold f_X1_number
  refine e_iconst (pc := 0) dX1_number_0 kc_0 ?_
  refine e_istore_n (L' := [some (.ref a0), some (.int a1), some (.int a2), some (.int (0 : Int32)), none]) (pc := 1) dX1_number_1 rfl (by decide) rfl ?_
  refine e_iconst (pc := 2) dX1_number_2 kc_0 ?_
  refine e_istore (L' := [some (.ref a0), some (.int a1), some (.int a2), some (.int (0 : Int32)), some (.int (0 : Int32))]) (pc := 3) dX1_number_3 (by decide) rfl ?_
  exact e_loop3 (L := fun b3 b4 => [some (.ref a0), some (.int a1), some (.int a2), some (.int b3), some (.int b4)]) (S := fun b3 b4 => []) (fun kf hkf => t_X1_number_5 a0 a1 a2  kf hkf) _ (0 : Int32) (0 : Int32) w
def M_X2_costOf : aM := (yX2_costOf, cX2_costOf, 5, (some .int), 0, 0)
theorem ok_X2_costOf : a_okM M_X2_costOf 2 := ⟨⟨by decide +kernel, by decide +kernel⟩, by decide +kernel, a_in 734 (by decide +kernel) rfl, a_in 82 (by decide +kernel) rfl⟩
theorem dX2_costOf_0 : decode M_X2_costOf.2.1 0 = .ok (.iload_n 1, 1) := by decide +kernel
theorem dX2_costOf_1 : decode M_X2_costOf.2.1 1 = .ok (.iconst 3, 1) := by decide +kernel
theorem dX2_costOf_2 : decode M_X2_costOf.2.1 2 = .ok (.iadd, 1) := by decide +kernel
theorem dX2_costOf_3 : decode M_X2_costOf.2.1 3 = .ok (.istore_n 2, 1) := by decide +kernel
theorem dX2_costOf_4 : decode M_X2_costOf.2.1 4 = .ok (.iconst 2, 1) := by decide +kernel
theorem dX2_costOf_5 : decode M_X2_costOf.2.1 5 = .ok (.iload_n 2, 1) := by decide +kernel
theorem dX2_costOf_6 : decode M_X2_costOf.2.1 6 = .ok (.imul, 1) := by decide +kernel
theorem dX2_costOf_7 : decode M_X2_costOf.2.1 7 = .ok (.istore_n 3, 1) := by decide +kernel
theorem dX2_costOf_8 : decode M_X2_costOf.2.1 8 = .ok (.iconst 0, 1) := by decide +kernel
theorem dX2_costOf_9 : decode M_X2_costOf.2.1 9 = .ok (.istore 4, 2) := by decide +kernel
theorem dX2_costOf_11 : decode M_X2_costOf.2.1 11 = .ok (.iload_n 0, 1) := by decide +kernel
theorem dX2_costOf_12 : decode M_X2_costOf.2.1 12 = .ok (.tableswitch 62 1 7 #[44, 46, 48, 50, 52, 55, 57], 44) := by decide +kernel
theorem dX2_costOf_56 : decode M_X2_costOf.2.1 56 = .ok (.iconst 1, 1) := by decide +kernel
theorem dX2_costOf_57 : decode M_X2_costOf.2.1 57 = .ok (.ireturn, 1) := by decide +kernel
theorem dX2_costOf_58 : decode M_X2_costOf.2.1 58 = .ok (.iload_n 2, 1) := by decide +kernel
theorem dX2_costOf_59 : decode M_X2_costOf.2.1 59 = .ok (.ireturn, 1) := by decide +kernel
theorem dX2_costOf_60 : decode M_X2_costOf.2.1 60 = .ok (.iload_n 3, 1) := by decide +kernel
theorem dX2_costOf_61 : decode M_X2_costOf.2.1 61 = .ok (.ireturn, 1) := by decide +kernel
theorem dX2_costOf_62 : decode M_X2_costOf.2.1 62 = .ok (.iconst 5, 1) := by decide +kernel
theorem dX2_costOf_63 : decode M_X2_costOf.2.1 63 = .ok (.ireturn, 1) := by decide +kernel
theorem dX2_costOf_64 : decode M_X2_costOf.2.1 64 = .ok (.iload 4, 2) := by decide +kernel
theorem dX2_costOf_66 : decode M_X2_costOf.2.1 66 = .ok (.ireturn, 1) := by decide +kernel
theorem dX2_costOf_67 : decode M_X2_costOf.2.1 67 = .ok (.iload_n 3, 1) := by decide +kernel
theorem dX2_costOf_68 : decode M_X2_costOf.2.1 68 = .ok (.ireturn, 1) := by decide +kernel
theorem dX2_costOf_69 : decode M_X2_costOf.2.1 69 = .ok (.iload 4, 2) := by decide +kernel
theorem dX2_costOf_71 : decode M_X2_costOf.2.1 71 = .ok (.iconst 1, 1) := by decide +kernel
theorem dX2_costOf_72 : decode M_X2_costOf.2.1 72 = .ok (.iadd, 1) := by decide +kernel
theorem dX2_costOf_73 : decode M_X2_costOf.2.1 73 = .ok (.ireturn, 1) := by decide +kernel
theorem dX2_costOf_74 : decode M_X2_costOf.2.1 74 = .ok (.iload_n 1, 1) := by decide +kernel
theorem dX2_costOf_75 : decode M_X2_costOf.2.1 75 = .ok (.ireturn, 1) := by decide +kernel
def f_X2_costOf (a0 : Int32) (a1 : Int32) (w : aW) : Option (Int32 × aW) :=
  if a0 = (1 : Int32) then
    some ((1 : Int32), w)
  else
    if a0 = (2 : Int32) then
      some ((a1 + (3 : Int32)), w)
    else
      if a0 = (3 : Int32) then
        some (((2 : Int32) * (a1 + (3 : Int32))), w)
      else
        if a0 = (4 : Int32) then
          some ((5 : Int32), w)
        else
          if a0 = (5 : Int32) then
            some ((0 : Int32), w)
          else
            if a0 = (6 : Int32) then
              some (((2 : Int32) * (a1 + (3 : Int32))), w)
            else
              if a0 = (7 : Int32) then
                some (((0 : Int32) + (1 : Int32)), w)
              else
                some (a1, w)
theorem s_X2_costOf (a0 : Int32) (a1 : Int32) (w : aW) : Sp rvI M_X2_costOf [.int a0, .int a1] w (f_X2_costOf a0 a1 w) := by
  refine e_entry [some (.int a0), some (.int a1), none, none, none] (by decide +kernel) (Nat.le_of_ble_eq_true rfl) (fun _ => rfl) ?_
  unfold f_X2_costOf
  refine e_iload_n (pc := 0) dX2_costOf_0 rfl rfl ?_
  refine e_iconst (pc := 1) dX2_costOf_1 kc_3 ?_
  refine e_iadd (pc := 2) dX2_costOf_2 ?_
  refine e_istore_n (L' := [some (.int a0), some (.int a1), some (.int (a1 + (3 : Int32))), none, none]) (pc := 3) dX2_costOf_3 rfl (by decide) rfl ?_
  refine e_iconst (pc := 4) dX2_costOf_4 kc_2 ?_
  refine e_iload_n (pc := 5) dX2_costOf_5 rfl rfl ?_
  refine e_imul (pc := 6) dX2_costOf_6 ?_
  refine e_istore_n (L' := [some (.int a0), some (.int a1), some (.int (a1 + (3 : Int32))), some (.int ((2 : Int32) * (a1 + (3 : Int32)))), none]) (pc := 7) dX2_costOf_7 rfl (by decide) rfl ?_
  refine e_iconst (pc := 8) dX2_costOf_8 kc_0 ?_
  refine e_istore (L' := [some (.int a0), some (.int a1), some (.int (a1 + (3 : Int32))), some (.int ((2 : Int32) * (a1 + (3 : Int32)))), some (.int (0 : Int32))]) (pc := 9) dX2_costOf_9 (by decide) rfl ?_
  refine e_iload_n (pc := 11) dX2_costOf_11 rfl rfl ?_
  refine e_ite (fun h1 => ?_) (fun h1 => ?_)
  · refine e_tabIn (pc := 12) (v := 1) (j := 1) (tgt := 56) dX2_costOf_12 h1 rfl (by decide) (by decide) rfl (by decide) ?_
    refine e_iconst (pc := 56) dX2_costOf_56 kc_1 ?_
    exact e_iret (pc := 57) dX2_costOf_57 rfl rfl
  · refine e_ite (fun h2 => ?_) (fun h2 => ?_)
    · refine e_tabIn (pc := 12) (v := 2) (j := 2) (tgt := 58) dX2_costOf_12 h2 rfl (by decide) (by decide) rfl (by decide) ?_
      refine e_iload_n (pc := 58) dX2_costOf_58 rfl rfl ?_
      exact e_iret (pc := 59) dX2_costOf_59 rfl rfl
    · refine e_ite (fun h3 => ?_) (fun h3 => ?_)
      · refine e_tabIn (pc := 12) (v := 3) (j := 3) (tgt := 60) dX2_costOf_12 h3 rfl (by decide) (by decide) rfl (by decide) ?_
        refine e_iload_n (pc := 60) dX2_costOf_60 rfl rfl ?_
        exact e_iret (pc := 61) dX2_costOf_61 rfl rfl
      · refine e_ite (fun h4 => ?_) (fun h4 => ?_)
        · refine e_tabIn (pc := 12) (v := 4) (j := 4) (tgt := 62) dX2_costOf_12 h4 rfl (by decide) (by decide) rfl (by decide) ?_
          refine e_iconst (pc := 62) dX2_costOf_62 kc_5 ?_
          exact e_iret (pc := 63) dX2_costOf_63 rfl rfl
        · refine e_ite (fun h5 => ?_) (fun h5 => ?_)
          · refine e_tabIn (pc := 12) (v := 5) (j := 5) (tgt := 64) dX2_costOf_12 h5 rfl (by decide) (by decide) rfl (by decide) ?_
            refine e_iload (pc := 64) dX2_costOf_64 rfl ?_
            exact e_iret (pc := 66) dX2_costOf_66 rfl rfl
          · refine e_ite (fun h6 => ?_) (fun h6 => ?_)
            · refine e_tabIn (pc := 12) (v := 6) (j := 6) (tgt := 67) dX2_costOf_12 h6 rfl (by decide) (by decide) rfl (by decide) ?_
              refine e_iload_n (pc := 67) dX2_costOf_67 rfl rfl ?_
              exact e_iret (pc := 68) dX2_costOf_68 rfl rfl
            · refine e_ite (fun h7 => ?_) (fun h7 => ?_)
              · refine e_tabIn (pc := 12) (v := 7) (j := 7) (tgt := 69) dX2_costOf_12 h7 rfl (by decide) (by decide) rfl (by decide) ?_
                refine e_iload (pc := 69) dX2_costOf_69 rfl ?_
                refine e_iconst (pc := 71) dX2_costOf_71 kc_1 ?_
                refine e_iadd (pc := 72) dX2_costOf_72 ?_
                exact e_iret (pc := 73) dX2_costOf_73 rfl rfl
              · refine e_tabOut (pc := 12) (tgt := 74) dX2_costOf_12 (by have z0 := lv_neT h1 (show (1 : Int32).toInt = 1 from rfl); have z1 := lv_neT h2 (show (2 : Int32).toInt = 2 from rfl); have z2 := lv_neT h3 (show (3 : Int32).toInt = 3 from rfl); have z3 := lv_neT h4 (show (4 : Int32).toInt = 4 from rfl); have z4 := lv_neT h5 (show (5 : Int32).toInt = 5 from rfl); have z5 := lv_neT h6 (show (6 : Int32).toInt = 6 from rfl); have z6 := lv_neT h7 (show (7 : Int32).toInt = 7 from rfl); omega) (by decide) ?_
                refine e_iload_n (pc := 74) dX2_costOf_74 rfl rfl ?_
                exact e_iret (pc := 75) dX2_costOf_75 rfl rfl
def M_X3_shelfAt : aM := (yX3_shelfAt, cX3_shelfAt, 2, (some (.object "WhoeverNamesIt$Shelf")), 1, 22)
theorem ok_X3_shelfAt : a_okM M_X3_shelfAt 1 := ⟨⟨by decide +kernel, by decide +kernel⟩, by decide +kernel, a_in 219 (by decide +kernel) rfl, a_in 76 (by decide +kernel) rfl⟩
theorem dX3_shelfAt_0 : decode M_X3_shelfAt.2.1 0 = .ok (.iload_n 1, 1) := by decide +kernel
theorem dX3_shelfAt_1 : decode M_X3_shelfAt.2.1 1 = .ok (.iconst 0, 1) := by decide +kernel
theorem dX3_shelfAt_2 : decode M_X3_shelfAt.2.1 2 = .ok (.bipush 7, 2) := by decide +kernel
theorem dX3_shelfAt_4 : decode M_X3_shelfAt.2.1 4 = .ok (.invokestatic 87, 3) := by decide +kernel
theorem dX3_shelfAt_7 : decode M_X3_shelfAt.2.1 7 = .ok (.ifCond .eq 12, 3) := by decide +kernel
theorem dX3_shelfAt_10 : decode M_X3_shelfAt.2.1 10 = .ok (.aload_n 0, 1) := by decide +kernel
theorem dX3_shelfAt_11 : decode M_X3_shelfAt.2.1 11 = .ok (.getfield 28, 3) := by decide +kernel
theorem dX3_shelfAt_14 : decode M_X3_shelfAt.2.1 14 = .ok (.iload_n 1, 1) := by decide +kernel
theorem dX3_shelfAt_15 : decode M_X3_shelfAt.2.1 15 = .ok (.aaload, 1) := by decide +kernel
theorem dX3_shelfAt_16 : decode M_X3_shelfAt.2.1 16 = .ok (.goto 4, 3) := by decide +kernel
theorem dX3_shelfAt_19 : decode M_X3_shelfAt.2.1 19 = .ok (.aconst_null, 1) := by decide +kernel
theorem dX3_shelfAt_20 : decode M_X3_shelfAt.2.1 20 = .ok (.areturn, 1) := by decide +kernel
theorem hs_X3_28 : a_fs RX3 28 2 4 := ⟨RX3, TX3, 7, rfl, tin_X3, by decide, a_in 194 (by decide +kernel) rfl⟩
def f_X3_shelfAt (a0 : Nat) (a1 : Int32) (w : aW) : Option (Option Nat × aW) :=
  bk (f_X3_within a1 (0 : Int32) (7 : Int32) w) fun x2 w1 =>
  if x2 = (0 : Int32) then
    some (none, w1)
  else
    (gR 2 w1 a0 4).bind fun r3 =>
    (gQ w1 r3 a1).bind fun o4 =>
    some (o4, w1)
theorem s_X3_shelfAt (a0 : Nat) (a1 : Int32) (w : aW) : Sp rvR M_X3_shelfAt [.ref a0, .int a1] w (f_X3_shelfAt a0 a1 w) := by
  refine e_entry [some (.ref a0), some (.int a1)] (by decide +kernel) (Nat.le_of_ble_eq_true rfl) (fun _ => rfl) ?_
  unfold f_X3_shelfAt
  refine e_iload_n (pc := 0) dX3_shelfAt_0 rfl rfl ?_
  refine e_iconst (pc := 1) dX3_shelfAt_1 kc_0 ?_
  refine e_bipush (pc := 2) dX3_shelfAt_2 kb_7 ?_
  refine e_callS (pc := 4) (av := [.int a1, .int (0 : Int32), .int (7 : Int32)]) (S := []) ok_X3_within ⟨Nat.le_of_ble_eq_true rfl, Nat.le_of_ble_eq_true rfl⟩ ht_X3_87 dX3_shelfAt_4 (s_X3_within a1 (0 : Int32) (7 : Int32) w) rfl rfl (Nat.le_of_ble_eq_true rfl) (fun x2 w1 => ?_)
  refine e_if_eq (pc := 7) (tgt := 19) dX3_shelfAt_7 (by decide) (fun _ => ?_) (fun _ => ?_)
  · refine e_null (pc := 19) dX3_shelfAt_19 ?_
    exact e_aret (pc := 20) (x := none) dX3_shelfAt_20 rfl
  · refine e_aload_n (pc := 10) dX3_shelfAt_10 rfl rfl ?_
    refine e_getR (pc := 11) dX3_shelfAt_11 hs_X3_28 (fun r3 => ?_)
    refine e_iload_n (pc := 14) dX3_shelfAt_14 rfl rfl ?_
    refine e_aald (pc := 15) dX3_shelfAt_15 (fun o4 => ?_)
    refine e_goto (pc := 16) (tgt := 20) dX3_shelfAt_16 (by decide) ?_
    exact e_aret (pc := 20) (x := o4) dX3_shelfAt_20 rfl
def M_X3_digitsBehind : aM := (yX3_digitsBehind, cX3_digitsBehind, 1, (some .int), 0, 0)
theorem ok_X3_digitsBehind : a_okM M_X3_digitsBehind 1 := ⟨⟨by decide +kernel, by decide +kernel⟩, by decide +kernel, a_in 237 (by decide +kernel) rfl, a_in 76 (by decide +kernel) rfl⟩
theorem dX3_digitsBehind_0 : decode M_X3_digitsBehind.2.1 0 = .ok (.iload_n 0, 1) := by decide +kernel
theorem dX3_digitsBehind_1 : decode M_X3_digitsBehind.2.1 1 = .ok (.tableswitch 108 98 117 #[95, 102, 106, 108, 108, 97, 108, 108, 108, 108, 108, 108, 108, 108, 99, 108, 108, 108, 108, 104], 95) := by decide +kernel
theorem dX3_digitsBehind_96 : decode M_X3_digitsBehind.2.1 96 = .ok (.iconst 4, 1) := by decide +kernel
theorem dX3_digitsBehind_97 : decode M_X3_digitsBehind.2.1 97 = .ok (.ireturn, 1) := by decide +kernel
theorem dX3_digitsBehind_98 : decode M_X3_digitsBehind.2.1 98 = .ok (.iconst 3, 1) := by decide +kernel
theorem dX3_digitsBehind_99 : decode M_X3_digitsBehind.2.1 99 = .ok (.ireturn, 1) := by decide +kernel
theorem dX3_digitsBehind_100 : decode M_X3_digitsBehind.2.1 100 = .ok (.bipush 7, 2) := by decide +kernel
theorem dX3_digitsBehind_102 : decode M_X3_digitsBehind.2.1 102 = .ok (.ireturn, 1) := by decide +kernel
theorem dX3_digitsBehind_103 : decode M_X3_digitsBehind.2.1 103 = .ok (.iconst 2, 1) := by decide +kernel
theorem dX3_digitsBehind_104 : decode M_X3_digitsBehind.2.1 104 = .ok (.ireturn, 1) := by decide +kernel
theorem dX3_digitsBehind_105 : decode M_X3_digitsBehind.2.1 105 = .ok (.iconst 1, 1) := by decide +kernel
theorem dX3_digitsBehind_106 : decode M_X3_digitsBehind.2.1 106 = .ok (.ireturn, 1) := by decide +kernel
theorem dX3_digitsBehind_107 : decode M_X3_digitsBehind.2.1 107 = .ok (.iconst 2, 1) := by decide +kernel
theorem dX3_digitsBehind_108 : decode M_X3_digitsBehind.2.1 108 = .ok (.ireturn, 1) := by decide +kernel
theorem dX3_digitsBehind_109 : decode M_X3_digitsBehind.2.1 109 = .ok (.bipush (-4), 2) := by decide +kernel
theorem dX3_digitsBehind_111 : decode M_X3_digitsBehind.2.1 111 = .ok (.ireturn, 1) := by decide +kernel
def f_X3_digitsBehind (a0 : Int32) (w : aW) : Option (Int32 × aW) :=
  if a0 = (98 : Int32) then
    some ((4 : Int32), w)
  else
    if a0 = (99 : Int32) then
      some ((2 : Int32), w)
    else
      if a0 = (100 : Int32) then
        some ((2 : Int32), w)
      else
        if a0 = (101 : Int32) then
          some ((-4 : Int32), w)
        else
          if a0 = (102 : Int32) then
            some ((-4 : Int32), w)
          else
            if a0 = (103 : Int32) then
              some ((3 : Int32), w)
            else
              if a0 = (104 : Int32) then
                some ((-4 : Int32), w)
              else
                if a0 = (105 : Int32) then
                  some ((-4 : Int32), w)
                else
                  if a0 = (106 : Int32) then
                    some ((-4 : Int32), w)
                  else
                    if a0 = (107 : Int32) then
                      some ((-4 : Int32), w)
                    else
                      if a0 = (108 : Int32) then
                        some ((-4 : Int32), w)
                      else
                        if a0 = (109 : Int32) then
                          some ((-4 : Int32), w)
                        else
                          if a0 = (110 : Int32) then
                            some ((-4 : Int32), w)
                          else
                            if a0 = (111 : Int32) then
                              some ((-4 : Int32), w)
                            else
                              if a0 = (112 : Int32) then
                                some ((7 : Int32), w)
                              else
                                if a0 = (113 : Int32) then
                                  some ((-4 : Int32), w)
                                else
                                  if a0 = (114 : Int32) then
                                    some ((-4 : Int32), w)
                                  else
                                    if a0 = (115 : Int32) then
                                      some ((-4 : Int32), w)
                                    else
                                      if a0 = (116 : Int32) then
                                        some ((-4 : Int32), w)
                                      else
                                        if a0 = (117 : Int32) then
                                          some ((1 : Int32), w)
                                        else
                                          some ((-4 : Int32), w)
theorem s_X3_digitsBehind (a0 : Int32) (w : aW) : Sp rvI M_X3_digitsBehind [.int a0] w (f_X3_digitsBehind a0 w) := by
  refine e_entry [some (.int a0)] (by decide +kernel) (Nat.le_of_ble_eq_true rfl) (fun _ => rfl) ?_
  unfold f_X3_digitsBehind
  refine e_iload_n (pc := 0) dX3_digitsBehind_0 rfl rfl ?_
  refine e_ite (fun h1 => ?_) (fun h1 => ?_)
  · refine e_tabIn (pc := 1) (v := 98) (j := 98) (tgt := 96) dX3_digitsBehind_1 h1 rfl (by decide) (by decide) rfl (by decide) ?_
    refine e_iconst (pc := 96) dX3_digitsBehind_96 kc_4 ?_
    exact e_iret (pc := 97) dX3_digitsBehind_97 rfl rfl
  · refine e_ite (fun h2 => ?_) (fun h2 => ?_)
    · refine e_tabIn (pc := 1) (v := 99) (j := 99) (tgt := 103) dX3_digitsBehind_1 h2 rfl (by decide) (by decide) rfl (by decide) ?_
      refine e_iconst (pc := 103) dX3_digitsBehind_103 kc_2 ?_
      exact e_iret (pc := 104) dX3_digitsBehind_104 rfl rfl
    · refine e_ite (fun h3 => ?_) (fun h3 => ?_)
      · refine e_tabIn (pc := 1) (v := 100) (j := 100) (tgt := 107) dX3_digitsBehind_1 h3 rfl (by decide) (by decide) rfl (by decide) ?_
        refine e_iconst (pc := 107) dX3_digitsBehind_107 kc_2 ?_
        exact e_iret (pc := 108) dX3_digitsBehind_108 rfl rfl
      · refine e_ite (fun h4 => ?_) (fun h4 => ?_)
        · refine e_tabIn (pc := 1) (v := 101) (j := 101) (tgt := 109) dX3_digitsBehind_1 h4 rfl (by decide) (by decide) rfl (by decide) ?_
          refine e_bipush (pc := 109) dX3_digitsBehind_109 kb_m4 ?_
          exact e_iret (pc := 111) dX3_digitsBehind_111 rfl rfl
        · refine e_ite (fun h5 => ?_) (fun h5 => ?_)
          · refine e_tabIn (pc := 1) (v := 102) (j := 102) (tgt := 109) dX3_digitsBehind_1 h5 rfl (by decide) (by decide) rfl (by decide) ?_
            refine e_bipush (pc := 109) dX3_digitsBehind_109 kb_m4 ?_
            exact e_iret (pc := 111) dX3_digitsBehind_111 rfl rfl
          · refine e_ite (fun h6 => ?_) (fun h6 => ?_)
            · refine e_tabIn (pc := 1) (v := 103) (j := 103) (tgt := 98) dX3_digitsBehind_1 h6 rfl (by decide) (by decide) rfl (by decide) ?_
              refine e_iconst (pc := 98) dX3_digitsBehind_98 kc_3 ?_
              exact e_iret (pc := 99) dX3_digitsBehind_99 rfl rfl
            · refine e_ite (fun h7 => ?_) (fun h7 => ?_)
              · refine e_tabIn (pc := 1) (v := 104) (j := 104) (tgt := 109) dX3_digitsBehind_1 h7 rfl (by decide) (by decide) rfl (by decide) ?_
                refine e_bipush (pc := 109) dX3_digitsBehind_109 kb_m4 ?_
                exact e_iret (pc := 111) dX3_digitsBehind_111 rfl rfl
              · refine e_ite (fun h8 => ?_) (fun h8 => ?_)
                · refine e_tabIn (pc := 1) (v := 105) (j := 105) (tgt := 109) dX3_digitsBehind_1 h8 rfl (by decide) (by decide) rfl (by decide) ?_
                  refine e_bipush (pc := 109) dX3_digitsBehind_109 kb_m4 ?_
                  exact e_iret (pc := 111) dX3_digitsBehind_111 rfl rfl
                · refine e_ite (fun h9 => ?_) (fun h9 => ?_)
                  · refine e_tabIn (pc := 1) (v := 106) (j := 106) (tgt := 109) dX3_digitsBehind_1 h9 rfl (by decide) (by decide) rfl (by decide) ?_
                    refine e_bipush (pc := 109) dX3_digitsBehind_109 kb_m4 ?_
                    exact e_iret (pc := 111) dX3_digitsBehind_111 rfl rfl
                  · refine e_ite (fun h10 => ?_) (fun h10 => ?_)
                    · refine e_tabIn (pc := 1) (v := 107) (j := 107) (tgt := 109) dX3_digitsBehind_1 h10 rfl (by decide) (by decide) rfl (by decide) ?_
                      refine e_bipush (pc := 109) dX3_digitsBehind_109 kb_m4 ?_
                      exact e_iret (pc := 111) dX3_digitsBehind_111 rfl rfl
                    · refine e_ite (fun h11 => ?_) (fun h11 => ?_)
                      · refine e_tabIn (pc := 1) (v := 108) (j := 108) (tgt := 109) dX3_digitsBehind_1 h11 rfl (by decide) (by decide) rfl (by decide) ?_
                        refine e_bipush (pc := 109) dX3_digitsBehind_109 kb_m4 ?_
                        exact e_iret (pc := 111) dX3_digitsBehind_111 rfl rfl
                      · refine e_ite (fun h12 => ?_) (fun h12 => ?_)
                        · refine e_tabIn (pc := 1) (v := 109) (j := 109) (tgt := 109) dX3_digitsBehind_1 h12 rfl (by decide) (by decide) rfl (by decide) ?_
                          refine e_bipush (pc := 109) dX3_digitsBehind_109 kb_m4 ?_
                          exact e_iret (pc := 111) dX3_digitsBehind_111 rfl rfl
                        · refine e_ite (fun h13 => ?_) (fun h13 => ?_)
                          · refine e_tabIn (pc := 1) (v := 110) (j := 110) (tgt := 109) dX3_digitsBehind_1 h13 rfl (by decide) (by decide) rfl (by decide) ?_
                            refine e_bipush (pc := 109) dX3_digitsBehind_109 kb_m4 ?_
                            exact e_iret (pc := 111) dX3_digitsBehind_111 rfl rfl
                          · refine e_ite (fun h14 => ?_) (fun h14 => ?_)
                            · refine e_tabIn (pc := 1) (v := 111) (j := 111) (tgt := 109) dX3_digitsBehind_1 h14 rfl (by decide) (by decide) rfl (by decide) ?_
                              refine e_bipush (pc := 109) dX3_digitsBehind_109 kb_m4 ?_
                              exact e_iret (pc := 111) dX3_digitsBehind_111 rfl rfl
                            · refine e_ite (fun h15 => ?_) (fun h15 => ?_)
                              · refine e_tabIn (pc := 1) (v := 112) (j := 112) (tgt := 100) dX3_digitsBehind_1 h15 rfl (by decide) (by decide) rfl (by decide) ?_
                                refine e_bipush (pc := 100) dX3_digitsBehind_100 kb_7 ?_
                                exact e_iret (pc := 102) dX3_digitsBehind_102 rfl rfl
                              · refine e_ite (fun h16 => ?_) (fun h16 => ?_)
                                · refine e_tabIn (pc := 1) (v := 113) (j := 113) (tgt := 109) dX3_digitsBehind_1 h16 rfl (by decide) (by decide) rfl (by decide) ?_
                                  refine e_bipush (pc := 109) dX3_digitsBehind_109 kb_m4 ?_
                                  exact e_iret (pc := 111) dX3_digitsBehind_111 rfl rfl
                                · refine e_ite (fun h17 => ?_) (fun h17 => ?_)
                                  · refine e_tabIn (pc := 1) (v := 114) (j := 114) (tgt := 109) dX3_digitsBehind_1 h17 rfl (by decide) (by decide) rfl (by decide) ?_
                                    refine e_bipush (pc := 109) dX3_digitsBehind_109 kb_m4 ?_
                                    exact e_iret (pc := 111) dX3_digitsBehind_111 rfl rfl
                                  · refine e_ite (fun h18 => ?_) (fun h18 => ?_)
                                    · refine e_tabIn (pc := 1) (v := 115) (j := 115) (tgt := 109) dX3_digitsBehind_1 h18 rfl (by decide) (by decide) rfl (by decide) ?_
                                      refine e_bipush (pc := 109) dX3_digitsBehind_109 kb_m4 ?_
                                      exact e_iret (pc := 111) dX3_digitsBehind_111 rfl rfl
                                    · refine e_ite (fun h19 => ?_) (fun h19 => ?_)
                                      · refine e_tabIn (pc := 1) (v := 116) (j := 116) (tgt := 109) dX3_digitsBehind_1 h19 rfl (by decide) (by decide) rfl (by decide) ?_
                                        refine e_bipush (pc := 109) dX3_digitsBehind_109 kb_m4 ?_
                                        exact e_iret (pc := 111) dX3_digitsBehind_111 rfl rfl
                                      · refine e_ite (fun h20 => ?_) (fun h20 => ?_)
                                        · refine e_tabIn (pc := 1) (v := 117) (j := 117) (tgt := 105) dX3_digitsBehind_1 h20 rfl (by decide) (by decide) rfl (by decide) ?_
                                          refine e_iconst (pc := 105) dX3_digitsBehind_105 kc_1 ?_
                                          exact e_iret (pc := 106) dX3_digitsBehind_106 rfl rfl
                                        · refine e_tabOut (pc := 1) (tgt := 109) dX3_digitsBehind_1 (by have z0 := lv_neT h1 (show (98 : Int32).toInt = 98 from rfl); have z1 := lv_neT h2 (show (99 : Int32).toInt = 99 from rfl); have z2 := lv_neT h3 (show (100 : Int32).toInt = 100 from rfl); have z3 := lv_neT h4 (show (101 : Int32).toInt = 101 from rfl); have z4 := lv_neT h5 (show (102 : Int32).toInt = 102 from rfl); have z5 := lv_neT h6 (show (103 : Int32).toInt = 103 from rfl); have z6 := lv_neT h7 (show (104 : Int32).toInt = 104 from rfl); have z7 := lv_neT h8 (show (105 : Int32).toInt = 105 from rfl); have z8 := lv_neT h9 (show (106 : Int32).toInt = 106 from rfl); have z9 := lv_neT h10 (show (107 : Int32).toInt = 107 from rfl); have z10 := lv_neT h11 (show (108 : Int32).toInt = 108 from rfl); have z11 := lv_neT h12 (show (109 : Int32).toInt = 109 from rfl); have z12 := lv_neT h13 (show (110 : Int32).toInt = 110 from rfl); have z13 := lv_neT h14 (show (111 : Int32).toInt = 111 from rfl); have z14 := lv_neT h15 (show (112 : Int32).toInt = 112 from rfl); have z15 := lv_neT h16 (show (113 : Int32).toInt = 113 from rfl); have z16 := lv_neT h17 (show (114 : Int32).toInt = 114 from rfl); have z17 := lv_neT h18 (show (115 : Int32).toInt = 115 from rfl); have z18 := lv_neT h19 (show (116 : Int32).toInt = 116 from rfl); have z19 := lv_neT h20 (show (117 : Int32).toInt = 117 from rfl); omega) (by decide) ?_
                                          refine e_bipush (pc := 109) dX3_digitsBehind_109 kb_m4 ?_
                                          exact e_iret (pc := 111) dX3_digitsBehind_111 rfl rfl
def M_X3_firstBadByte : aM := (yX3_firstBadByte, cX3_firstBadByte, 4, (some .int), 2, 43)
theorem ok_X3_firstBadByte : a_okM M_X3_firstBadByte 1 := ⟨⟨by decide +kernel, by decide +kernel⟩, by decide +kernel, a_in 229 (by decide +kernel) rfl, a_in 76 (by decide +kernel) rfl⟩
theorem dX3_firstBadByte_0 : decode M_X3_firstBadByte.2.1 0 = .ok (.iconst 0, 1) := by decide +kernel
theorem dX3_firstBadByte_1 : decode M_X3_firstBadByte.2.1 1 = .ok (.istore_n 1, 1) := by decide +kernel
theorem dX3_firstBadByte_2 : decode M_X3_firstBadByte.2.1 2 = .ok (.aload_n 0, 1) := by decide +kernel
theorem dX3_firstBadByte_3 : decode M_X3_firstBadByte.2.1 3 = .ok (.iload_n 1, 1) := by decide +kernel
theorem dX3_firstBadByte_4 : decode M_X3_firstBadByte.2.1 4 = .ok (.invokevirtual 66, 3) := by decide +kernel
theorem dX3_firstBadByte_7 : decode M_X3_firstBadByte.2.1 7 = .ok (.invokestatic 70, 3) := by decide +kernel
theorem dX3_firstBadByte_10 : decode M_X3_firstBadByte.2.1 10 = .ok (.istore_n 2, 1) := by decide +kernel
theorem dX3_firstBadByte_11 : decode M_X3_firstBadByte.2.1 11 = .ok (.iload_n 2, 1) := by decide +kernel
theorem dX3_firstBadByte_12 : decode M_X3_firstBadByte.2.1 12 = .ok (.bipush (-4), 2) := by decide +kernel
theorem dX3_firstBadByte_14 : decode M_X3_firstBadByte.2.1 14 = .ok (.if_icmp .ne 5, 3) := by decide +kernel
theorem dX3_firstBadByte_17 : decode M_X3_firstBadByte.2.1 17 = .ok (.iload_n 1, 1) := by decide +kernel
theorem dX3_firstBadByte_18 : decode M_X3_firstBadByte.2.1 18 = .ok (.ireturn, 1) := by decide +kernel
theorem dX3_firstBadByte_19 : decode M_X3_firstBadByte.2.1 19 = .ok (.iinc 1 1, 3) := by decide +kernel
theorem dX3_firstBadByte_22 : decode M_X3_firstBadByte.2.1 22 = .ok (.iconst 0, 1) := by decide +kernel
theorem dX3_firstBadByte_23 : decode M_X3_firstBadByte.2.1 23 = .ok (.istore_n 3, 1) := by decide +kernel
theorem dX3_firstBadByte_24 : decode M_X3_firstBadByte.2.1 24 = .ok (.iload_n 3, 1) := by decide +kernel
theorem dX3_firstBadByte_25 : decode M_X3_firstBadByte.2.1 25 = .ok (.iload_n 2, 1) := by decide +kernel
theorem dX3_firstBadByte_26 : decode M_X3_firstBadByte.2.1 26 = .ok (.if_icmp .ge 29, 3) := by decide +kernel
theorem dX3_firstBadByte_29 : decode M_X3_firstBadByte.2.1 29 = .ok (.aload_n 0, 1) := by decide +kernel
theorem dX3_firstBadByte_30 : decode M_X3_firstBadByte.2.1 30 = .ok (.iload_n 1, 1) := by decide +kernel
theorem dX3_firstBadByte_31 : decode M_X3_firstBadByte.2.1 31 = .ok (.invokevirtual 66, 3) := by decide +kernel
theorem dX3_firstBadByte_34 : decode M_X3_firstBadByte.2.1 34 = .ok (.bipush 48, 2) := by decide +kernel
theorem dX3_firstBadByte_36 : decode M_X3_firstBadByte.2.1 36 = .ok (.bipush 57, 2) := by decide +kernel
theorem dX3_firstBadByte_38 : decode M_X3_firstBadByte.2.1 38 = .ok (.invokestatic 87, 3) := by decide +kernel
theorem dX3_firstBadByte_41 : decode M_X3_firstBadByte.2.1 41 = .ok (.ifCond .ne 5, 3) := by decide +kernel
theorem dX3_firstBadByte_44 : decode M_X3_firstBadByte.2.1 44 = .ok (.iload_n 1, 1) := by decide +kernel
theorem dX3_firstBadByte_45 : decode M_X3_firstBadByte.2.1 45 = .ok (.ireturn, 1) := by decide +kernel
theorem dX3_firstBadByte_46 : decode M_X3_firstBadByte.2.1 46 = .ok (.iinc 1 1, 3) := by decide +kernel
theorem dX3_firstBadByte_49 : decode M_X3_firstBadByte.2.1 49 = .ok (.iinc 3 1, 3) := by decide +kernel
theorem dX3_firstBadByte_52 : decode M_X3_firstBadByte.2.1 52 = .ok (.goto (-28), 3) := by decide +kernel
theorem dX3_firstBadByte_55 : decode M_X3_firstBadByte.2.1 55 = .ok (.aload_n 0, 1) := by decide +kernel
theorem dX3_firstBadByte_56 : decode M_X3_firstBadByte.2.1 56 = .ok (.iload_n 1, 1) := by decide +kernel
theorem dX3_firstBadByte_57 : decode M_X3_firstBadByte.2.1 57 = .ok (.invokevirtual 66, 3) := by decide +kernel
theorem dX3_firstBadByte_60 : decode M_X3_firstBadByte.2.1 60 = .ok (.bipush 59, 2) := by decide +kernel
theorem dX3_firstBadByte_62 : decode M_X3_firstBadByte.2.1 62 = .ok (.if_icmp .eq 5, 3) := by decide +kernel
theorem dX3_firstBadByte_65 : decode M_X3_firstBadByte.2.1 65 = .ok (.iload_n 1, 1) := by decide +kernel
theorem dX3_firstBadByte_66 : decode M_X3_firstBadByte.2.1 66 = .ok (.ireturn, 1) := by decide +kernel
theorem dX3_firstBadByte_67 : decode M_X3_firstBadByte.2.1 67 = .ok (.iinc 1 1, 3) := by decide +kernel
theorem dX3_firstBadByte_70 : decode M_X3_firstBadByte.2.1 70 = .ok (.iload_n 1, 1) := by decide +kernel
theorem dX3_firstBadByte_71 : decode M_X3_firstBadByte.2.1 71 = .ok (.aload_n 0, 1) := by decide +kernel
theorem dX3_firstBadByte_72 : decode M_X3_firstBadByte.2.1 72 = .ok (.getfield 59, 3) := by decide +kernel
theorem dX3_firstBadByte_75 : decode M_X3_firstBadByte.2.1 75 = .ok (.if_icmp .lt (-73), 3) := by decide +kernel
theorem dX3_firstBadByte_78 : decode M_X3_firstBadByte.2.1 78 = .ok (.bipush (-4), 2) := by decide +kernel
theorem dX3_firstBadByte_80 : decode M_X3_firstBadByte.2.1 80 = .ok (.ireturn, 1) := by decide +kernel
theorem hv_X3_66 : a_okV RX3 M_X1_at 66 := ⟨a_in 230 (by decide +kernel) rfl, a_in 231 (by decide +kernel) rfl, a_in 232 (by decide +kernel) rfl⟩
theorem ht_X3_70 : a_okS RX3 M_X3_digitsBehind 70 := ⟨a_in 235 (by decide +kernel) rfl, a_in 236 (by decide +kernel) rfl⟩
theorem hs_X3_59 : a_fs RX3 59 1 4 := ⟨RX1, TX1, 6, rfl, tin_X1, by decide, a_in 174 (by decide +kernel) rfl⟩
def c_X3_firstBadByte_24 (a0 : Nat) (k2 : Int32 → aW → Option (Int32 × aW)) (k24 : Int32 → Int32 → Int32 → aW → Option (Int32 × aW)) (b1 : Int32) (b2 : Int32) (b3 : Int32) (w : aW) : Option (Int32 × aW) :=
  if b2 ≤ b3 then
    cV 1 w a0 (bk (f_X1_at a0 b1 w) fun x6 w5 =>
    if x6 = (59 : Int32) then
      (gI 1 w5 a0 4).bind fun x7 =>
      if (b1 + 1) < x7 then
        k2 (b1 + 1) w5
      else
        some ((-4 : Int32), w5)
    else
      some (b1, w5))
  else
    cV 1 w a0 (bk (f_X1_at a0 b1 w) fun x9 w8 =>
    bk (f_X3_within x9 (48 : Int32) (57 : Int32) w8) fun x11 w10 =>
    if ¬ x11 = (0 : Int32) then
      k24 (b1 + 1) b2 (b3 + 1) w10
    else
      some (b1, w10))
theorem t_X3_firstBadByte_24 (a0 : Nat) (k2 : Int32 → aW → Option (Int32 × aW)) (hk2 : ∀ (b1 : Int32) (w : aW), Ev rvI M_X3_firstBadByte 2 [some (.ref a0), some (.int b1), none, none] [] w (k2 b1 w)) (k24 : Int32 → Int32 → Int32 → aW → Option (Int32 × aW)) (hk24 : ∀ (b1 : Int32) (b2 : Int32) (b3 : Int32) (w : aW), Ev rvI M_X3_firstBadByte 24 [some (.ref a0), some (.int b1), some (.int b2), some (.int b3)] [] w (k24 b1 b2 b3 w)) (b1 : Int32) (b2 : Int32) (b3 : Int32) (w : aW) : Ev rvI M_X3_firstBadByte 24 [some (.ref a0), some (.int b1), some (.int b2), some (.int b3)] [] w (c_X3_firstBadByte_24 a0 k2 k24 b1 b2 b3 w) := by
  unfold c_X3_firstBadByte_24
  refine e_iload_n (pc := 24) dX3_firstBadByte_24 rfl rfl ?_
  refine e_iload_n (pc := 25) dX3_firstBadByte_25 rfl rfl ?_
  refine e_icmp_ge (pc := 26) (tgt := 55) dX3_firstBadByte_26 (by decide) (fun _ => ?_) (fun _ => ?_)
  · refine e_aload_n (pc := 55) dX3_firstBadByte_55 rfl rfl ?_
    refine e_iload_n (pc := 56) dX3_firstBadByte_56 rfl rfl ?_
    refine e_callV (pc := 57) (av := [.int b1]) (S := []) (c0 := 1) rfl rfl ok_X1_at ⟨Nat.le_of_ble_eq_true rfl, Nat.le_of_ble_eq_true rfl⟩ hv_X3_66 dX3_firstBadByte_57 (s_X1_at a0 b1 w) rfl rfl (Nat.le_of_ble_eq_true rfl) (fun x6 w5 => ?_)
    refine e_bipush (pc := 60) dX3_firstBadByte_60 kb_59 ?_
    refine e_icmp_eq (pc := 62) (tgt := 67) dX3_firstBadByte_62 (by decide) (fun _ => ?_) (fun _ => ?_)
    · refine e_iinc (L' := [some (.ref a0), some (.int (b1 + 1)), some (.int b2), some (.int b3)]) (pc := 67) (v := 1) dX3_firstBadByte_67 (by decide) rfl kc_1 rfl ?_
      refine e_iload_n (pc := 70) dX3_firstBadByte_70 rfl rfl ?_
      refine e_aload_n (pc := 71) dX3_firstBadByte_71 rfl rfl ?_
      refine e_getI (pc := 72) dX3_firstBadByte_72 hs_X3_59 (fun x7 => ?_)
      refine e_icmp_lt (pc := 75) (tgt := 2) dX3_firstBadByte_75 (by decide) (fun _ => ?_) (fun _ => ?_)
      · refine e_forget (L2 := [some (.ref a0), some (.int (b1 + 1)), none, none]) (And.intro rfl (And.intro rfl trivial)) ?_
        exact hk2 (b1 + 1) w5
      · refine e_bipush (pc := 78) dX3_firstBadByte_78 kb_m4 ?_
        exact e_iret (pc := 80) dX3_firstBadByte_80 rfl rfl
    · refine e_iload_n (pc := 65) dX3_firstBadByte_65 rfl rfl ?_
      exact e_iret (pc := 66) dX3_firstBadByte_66 rfl rfl
  · refine e_aload_n (pc := 29) dX3_firstBadByte_29 rfl rfl ?_
    refine e_iload_n (pc := 30) dX3_firstBadByte_30 rfl rfl ?_
    refine e_callV (pc := 31) (av := [.int b1]) (S := []) (c0 := 1) rfl rfl ok_X1_at ⟨Nat.le_of_ble_eq_true rfl, Nat.le_of_ble_eq_true rfl⟩ hv_X3_66 dX3_firstBadByte_31 (s_X1_at a0 b1 w) rfl rfl (Nat.le_of_ble_eq_true rfl) (fun x9 w8 => ?_)
    refine e_bipush (pc := 34) dX3_firstBadByte_34 kb_48 ?_
    refine e_bipush (pc := 36) dX3_firstBadByte_36 kb_57 ?_
    refine e_callS (pc := 38) (av := [.int x9, .int (48 : Int32), .int (57 : Int32)]) (S := []) ok_X3_within ⟨Nat.le_of_ble_eq_true rfl, Nat.le_of_ble_eq_true rfl⟩ ht_X3_87 dX3_firstBadByte_38 (s_X3_within x9 (48 : Int32) (57 : Int32) w8) rfl rfl (Nat.le_of_ble_eq_true rfl) (fun x11 w10 => ?_)
    refine e_if_ne (pc := 41) (tgt := 46) dX3_firstBadByte_41 (by decide) (fun _ => ?_) (fun _ => ?_)
    · refine e_iinc (L' := [some (.ref a0), some (.int (b1 + 1)), some (.int b2), some (.int b3)]) (pc := 46) (v := 1) dX3_firstBadByte_46 (by decide) rfl kc_1 rfl ?_
      refine e_iinc (L' := [some (.ref a0), some (.int (b1 + 1)), some (.int b2), some (.int (b3 + 1))]) (pc := 49) (v := 1) dX3_firstBadByte_49 (by decide) rfl kc_1 rfl ?_
      refine e_goto (pc := 52) (tgt := 24) dX3_firstBadByte_52 (by decide) ?_
      exact hk24 (b1 + 1) b2 (b3 + 1) w10
    · refine e_iload_n (pc := 44) dX3_firstBadByte_44 rfl rfl ?_
      exact e_iret (pc := 45) dX3_firstBadByte_45 rfl rfl
def c_X3_firstBadByte_2 (a0 : Nat) (k2 : Int32 → aW → Option (Int32 × aW)) (b1 : Int32) (w : aW) : Option (Int32 × aW) :=
  cV 1 w a0 (bk (f_X1_at a0 b1 w) fun x2 w1 =>
  bk (f_X3_digitsBehind x2 w1) fun x4 w3 =>
  if ¬ x4 = (-4 : Int32) then
    loop4 (c_X3_firstBadByte_24 a0 k2) a_fuel (b1 + 1) x4 (0 : Int32) w3
  else
    some (b1, w3))
theorem t_X3_firstBadByte_2 (a0 : Nat) (k2 : Int32 → aW → Option (Int32 × aW)) (hk2 : ∀ (b1 : Int32) (w : aW), Ev rvI M_X3_firstBadByte 2 [some (.ref a0), some (.int b1), none, none] [] w (k2 b1 w)) (b1 : Int32) (w : aW) : Ev rvI M_X3_firstBadByte 2 [some (.ref a0), some (.int b1), none, none] [] w (c_X3_firstBadByte_2 a0 k2 b1 w) := by
  unfold c_X3_firstBadByte_2
  refine e_aload_n (pc := 2) dX3_firstBadByte_2 rfl rfl ?_
  refine e_iload_n (pc := 3) dX3_firstBadByte_3 rfl rfl ?_
  refine e_callV (pc := 4) (av := [.int b1]) (S := []) (c0 := 1) rfl rfl ok_X1_at ⟨Nat.le_of_ble_eq_true rfl, Nat.le_of_ble_eq_true rfl⟩ hv_X3_66 dX3_firstBadByte_4 (s_X1_at a0 b1 w) rfl rfl (Nat.le_of_ble_eq_true rfl) (fun x2 w1 => ?_)
  refine e_callS (pc := 7) (av := [.int x2]) (S := []) ok_X3_digitsBehind ⟨Nat.le_of_ble_eq_true rfl, Nat.le_of_ble_eq_true rfl⟩ ht_X3_70 dX3_firstBadByte_7 (s_X3_digitsBehind x2 w1) rfl rfl (Nat.le_of_ble_eq_true rfl) (fun x4 w3 => ?_)
  refine e_istore_n (L' := [some (.ref a0), some (.int b1), some (.int x4), none]) (pc := 10) dX3_firstBadByte_10 rfl (by decide) rfl ?_
  refine e_iload_n (pc := 11) dX3_firstBadByte_11 rfl rfl ?_
  refine e_bipush (pc := 12) dX3_firstBadByte_12 kb_m4 ?_
  refine e_icmp_ne (pc := 14) (tgt := 19) dX3_firstBadByte_14 (by decide) (fun _ => ?_) (fun _ => ?_)
  · refine e_iinc (L' := [some (.ref a0), some (.int (b1 + 1)), some (.int x4), none]) (pc := 19) (v := 1) dX3_firstBadByte_19 (by decide) rfl kc_1 rfl ?_
    refine e_iconst (pc := 22) dX3_firstBadByte_22 kc_0 ?_
    refine e_istore_n (L' := [some (.ref a0), some (.int (b1 + 1)), some (.int x4), some (.int (0 : Int32))]) (pc := 23) dX3_firstBadByte_23 rfl (by decide) rfl ?_
    exact e_loop4 (L := fun b1 b2 b3 => [some (.ref a0), some (.int b1), some (.int b2), some (.int b3)]) (S := fun b1 b2 b3 => []) (fun kf hkf => t_X3_firstBadByte_24 a0 k2 hk2 kf hkf) _ (b1 + 1) x4 (0 : Int32) w3
  · refine e_iload_n (pc := 17) dX3_firstBadByte_17 rfl rfl ?_
    exact e_iret (pc := 18) dX3_firstBadByte_18 rfl rfl
def f_X3_firstBadByte (a0 : Nat) (w : aW) : Option (Int32 × aW) :=
  loop2 (c_X3_firstBadByte_2 a0) a_fuel (0 : Int32) w
theorem s_X3_firstBadByte (a0 : Nat) (w : aW) : Sp rvI M_X3_firstBadByte [.ref a0] w (f_X3_firstBadByte a0 w) := by
  refine e_entry [some (.ref a0), none, none, none] (by decide +kernel) (Nat.le_of_ble_eq_true rfl) (fun _ => rfl) ?_
  unfold f_X3_firstBadByte
  refine e_iconst (pc := 0) dX3_firstBadByte_0 kc_0 ?_
  refine e_istore_n (L' := [some (.ref a0), some (.int (0 : Int32)), none, none]) (pc := 1) dX3_firstBadByte_1 rfl (by decide) rfl ?_
  exact e_loop2 (L := fun b1 => [some (.ref a0), some (.int b1), none, none]) (S := fun b1 => []) (fun kf hkf => t_X3_firstBadByte_2 a0  kf hkf) _ (0 : Int32) w
def M_X3_think : aM := (yX3_think, cX3_think, 1, none, 2, 81)
theorem ok_X3_think : a_okM M_X3_think 0 := ⟨⟨by decide +kernel, by decide +kernel⟩, by decide +kernel, a_in 241 (by decide +kernel) rfl, a_in 76 (by decide +kernel) rfl⟩
theorem dX3_think_0 : decode M_X3_think.2.1 0 = .ok (.aload_n 0, 1) := by decide +kernel
theorem dX3_think_1 : decode M_X3_think.2.1 1 = .ok (.getfield 16, 3) := by decide +kernel
theorem dX3_think_4 : decode M_X3_think.2.1 4 = .ok (.aload_n 0, 1) := by decide +kernel
theorem dX3_think_5 : decode M_X3_think.2.1 5 = .ok (.getfield 10, 3) := by decide +kernel
theorem dX3_think_8 : decode M_X3_think.2.1 8 = .ok (.invokevirtual 79, 3) := by decide +kernel
theorem dX3_think_11 : decode M_X3_think.2.1 11 = .ok (.return_, 1) := by decide +kernel
theorem hs_X3_16 : a_fs RX3 16 2 1 := ⟨RX3, TX3, 7, rfl, tin_X3, by decide, a_in 191 (by decide +kernel) rfl⟩
theorem hs_X3_10 : a_fs RX3 10 2 0 := ⟨RX3, TX3, 7, rfl, tin_X3, by decide, a_in 190 (by decide +kernel) rfl⟩
theorem hv_X3_79 : a_okV RX3 M_X0_becomeAs 79 := ⟨a_in 242 (by decide +kernel) rfl, a_in 243 (by decide +kernel) rfl, a_in 244 (by decide +kernel) rfl⟩
def f_X3_think (a0 : Nat) (w : aW) : Option (Unit × aW) :=
  (gR 2 w a0 1).bind fun r1 =>
  (gR 2 w a0 0).bind fun r2 =>
  cV 0 w r1 (bk (f_X0_becomeAs r1 r2 w) fun _ w3 =>
  some ((), w3))
theorem s_X3_think (a0 : Nat) (w : aW) : Sp rvV M_X3_think [.ref a0] w (f_X3_think a0 w) := by
  refine e_entry [some (.ref a0)] (by decide +kernel) (Nat.le_of_ble_eq_true rfl) (fun _ => rfl) ?_
  unfold f_X3_think
  refine e_aload_n (pc := 0) dX3_think_0 rfl rfl ?_
  refine e_getR (pc := 1) dX3_think_1 hs_X3_16 (fun r1 => ?_)
  refine e_aload_n (pc := 4) dX3_think_4 rfl rfl ?_
  refine e_getR (pc := 5) dX3_think_5 hs_X3_10 (fun r2 => ?_)
  refine e_callV (pc := 8) (av := [.ref r2]) (S := []) (c0 := 0) rfl rfl ok_X0_becomeAs ⟨Nat.le_of_ble_eq_true rfl, Nat.le_of_ble_eq_true rfl⟩ hv_X3_79 dX3_think_8 (s_X0_becomeAs r1 r2 w) rfl rfl (Nat.le_of_ble_eq_true rfl) (fun _ w3 => ?_)
  exact e_vret (pc := 11) dX3_think_11 rfl
def M_X3_done : aM := (yX3_done, cX3_done, 1, (some .boolean), 0, 0)
theorem ok_X3_done : a_okM M_X3_done 1 := ⟨⟨by decide +kernel, by decide +kernel⟩, by decide +kernel, a_in 273 (by decide +kernel) rfl, a_in 76 (by decide +kernel) rfl⟩
theorem dX3_done_0 : decode M_X3_done.2.1 0 = .ok (.iload_n 0, 1) := by decide +kernel
theorem dX3_done_1 : decode M_X3_done.2.1 1 = .ok (.ifCond .ge 9, 3) := by decide +kernel
theorem dX3_done_4 : decode M_X3_done.2.1 4 = .ok (.iload_n 0, 1) := by decide +kernel
theorem dX3_done_5 : decode M_X3_done.2.1 5 = .ok (.bipush (-4), 2) := by decide +kernel
theorem dX3_done_7 : decode M_X3_done.2.1 7 = .ok (.if_icmp .ne 7, 3) := by decide +kernel
theorem dX3_done_10 : decode M_X3_done.2.1 10 = .ok (.iconst 1, 1) := by decide +kernel
theorem dX3_done_11 : decode M_X3_done.2.1 11 = .ok (.goto 4, 3) := by decide +kernel
theorem dX3_done_14 : decode M_X3_done.2.1 14 = .ok (.iconst 0, 1) := by decide +kernel
theorem dX3_done_15 : decode M_X3_done.2.1 15 = .ok (.ireturn, 1) := by decide +kernel
def f_X3_done (a0 : Int32) (w : aW) : Option (Int32 × aW) :=
  if (0 : Int32) ≤ a0 then
    some ((1 : Int32), w)
  else
    if ¬ a0 = (-4 : Int32) then
      some ((0 : Int32), w)
    else
      some ((1 : Int32), w)
theorem s_X3_done (a0 : Int32) (w : aW) : Sp rvI M_X3_done [.int a0] w (f_X3_done a0 w) := by
  refine e_entry [some (.int a0)] (by decide +kernel) (Nat.le_of_ble_eq_true rfl) (fun _ => rfl) ?_
  unfold f_X3_done
  refine e_iload_n (pc := 0) dX3_done_0 rfl rfl ?_
  refine e_if_ge (pc := 1) (tgt := 10) dX3_done_1 (by decide) (fun _ => ?_) (fun _ => ?_)
  · refine e_iconst (pc := 10) dX3_done_10 kc_1 ?_
    refine e_goto (pc := 11) (tgt := 15) dX3_done_11 (by decide) ?_
    exact e_iret (pc := 15) dX3_done_15 rfl (a_nb (by decide))
  · refine e_iload_n (pc := 4) dX3_done_4 rfl rfl ?_
    refine e_bipush (pc := 5) dX3_done_5 kb_m4 ?_
    refine e_icmp_ne (pc := 7) (tgt := 14) dX3_done_7 (by decide) (fun _ => ?_) (fun _ => ?_)
    · refine e_iconst (pc := 14) dX3_done_14 kc_0 ?_
      exact e_iret (pc := 15) dX3_done_15 rfl (a_nb (by decide))
    · refine e_iconst (pc := 10) dX3_done_10 kc_1 ?_
      refine e_goto (pc := 11) (tgt := 15) dX3_done_11 (by decide) ?_
      exact e_iret (pc := 15) dX3_done_15 rfl (a_nb (by decide))
