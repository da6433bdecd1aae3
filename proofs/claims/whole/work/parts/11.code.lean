/-! the decompiled methods: each f_ is what its bytecode does to a world; each s_ ties it to the machine. Written by program (wip/gen/gen.py). -/
def M_X0_giveAll : aM := (yX0_giveAll, cX0_giveAll, 4, none, 1, 21)
theorem ok_X0_giveAll : a_okM M_X0_giveAll 2 := ⟨⟨by decide +kernel, by decide +kernel⟩, by decide +kernel, a_in 358 (by decide +kernel) rfl, a_in 77 (by decide +kernel) rfl⟩
theorem dX0_giveAll_0 : decode M_X0_giveAll.2.1 0 = .ok (.iconst 0, 1) := by decide +kernel
theorem dX0_giveAll_1 : decode M_X0_giveAll.2.1 1 = .ok (.istore_n 3, 1) := by decide +kernel
theorem dX0_giveAll_2 : decode M_X0_giveAll.2.1 2 = .ok (.iload_n 3, 1) := by decide +kernel
theorem dX0_giveAll_3 : decode M_X0_giveAll.2.1 3 = .ok (.bipush 9, 2) := by decide +kernel
theorem dX0_giveAll_5 : decode M_X0_giveAll.2.1 5 = .ok (.if_icmp .ge 24, 3) := by decide +kernel
theorem dX0_giveAll_8 : decode M_X0_giveAll.2.1 8 = .ok (.iload_n 1, 1) := by decide +kernel
theorem dX0_giveAll_9 : decode M_X0_giveAll.2.1 9 = .ok (.iload_n 3, 1) := by decide +kernel
theorem dX0_giveAll_10 : decode M_X0_giveAll.2.1 10 = .ok (.invokestatic 91, 3) := by decide +kernel
theorem dX0_giveAll_13 : decode M_X0_giveAll.2.1 13 = .ok (.ifCond .eq 10, 3) := by decide +kernel
theorem dX0_giveAll_16 : decode M_X0_giveAll.2.1 16 = .ok (.aload_n 0, 1) := by decide +kernel
theorem dX0_giveAll_17 : decode M_X0_giveAll.2.1 17 = .ok (.getfield 37, 3) := by decide +kernel
theorem dX0_giveAll_20 : decode M_X0_giveAll.2.1 20 = .ok (.iload_n 3, 1) := by decide +kernel
theorem dX0_giveAll_21 : decode M_X0_giveAll.2.1 21 = .ok (.iload_n 2, 1) := by decide +kernel
theorem dX0_giveAll_22 : decode M_X0_giveAll.2.1 22 = .ok (.iastore, 1) := by decide +kernel
theorem dX0_giveAll_23 : decode M_X0_giveAll.2.1 23 = .ok (.iinc 3 1, 3) := by decide +kernel
theorem dX0_giveAll_26 : decode M_X0_giveAll.2.1 26 = .ok (.goto (-24), 3) := by decide +kernel
theorem dX0_giveAll_29 : decode M_X0_giveAll.2.1 29 = .ok (.return_, 1) := by decide +kernel
def c_X0_giveAll_2 (a0 : Nat) (a1 : Int32) (a2 : Int32) (k2 : Int32 → aW → Option (Unit × aW)) (b3 : Int32) (w : aW) : Option (Unit × aW) :=
  if (9 : Int32) ≤ b3 then
    some ((), w)
  else
    bk (f_X3_has a1 b3 w) fun x2 w1 =>
    if x2 = (0 : Int32) then
      k2 (b3 + 1) w1
    else
      (gR 0 w1 a0 8).bind fun r3 =>
      (sA w1 r3 b3 a2).bind fun w4 =>
      k2 (b3 + 1) w4
theorem t_X0_giveAll_2 (a0 : Nat) (a1 : Int32) (a2 : Int32) (k2 : Int32 → aW → Option (Unit × aW)) (hk2 : ∀ (b3 : Int32) (w : aW), Ev rvV M_X0_giveAll 2 [some (.ref a0), some (.int a1), some (.int a2), some (.int b3)] [] w (k2 b3 w)) (b3 : Int32) (w : aW) : Ev rvV M_X0_giveAll 2 [some (.ref a0), some (.int a1), some (.int a2), some (.int b3)] [] w (c_X0_giveAll_2 a0 a1 a2 k2 b3 w) := by
  unfold c_X0_giveAll_2
  refine e_iload_n (pc := 2) dX0_giveAll_2 rfl rfl ?_
  refine e_bipush (pc := 3) dX0_giveAll_3 kb_9 ?_
  refine e_icmp_ge (pc := 5) (tgt := 29) dX0_giveAll_5 (by decide) (fun _ => ?_) (fun _ => ?_)
  · exact e_vret (pc := 29) dX0_giveAll_29 rfl
  · refine e_iload_n (pc := 8) dX0_giveAll_8 rfl rfl ?_
    refine e_iload_n (pc := 9) dX0_giveAll_9 rfl rfl ?_
    refine e_callN (pc := 10) (av := [.int a1, .int b3]) (S := []) ok_X3_has ⟨Nat.le_of_ble_eq_true rfl, Nat.le_of_ble_eq_true rfl⟩ hn_X0_91 dX0_giveAll_10 (s_X3_has a1 b3 w) rfl rfl (Nat.le_of_ble_eq_true rfl) (fun x2 w1 => ?_)
    refine e_if_eq (pc := 13) (tgt := 23) dX0_giveAll_13 (by decide) (fun _ => ?_) (fun _ => ?_)
    · refine e_iinc (L' := [some (.ref a0), some (.int a1), some (.int a2), some (.int (b3 + 1))]) (pc := 23) (v := 1) dX0_giveAll_23 (by decide) rfl kc_1 rfl ?_
      refine e_goto (pc := 26) (tgt := 2) dX0_giveAll_26 (by decide) ?_
      exact hk2 (b3 + 1) w1
    · refine e_aload_n (pc := 16) dX0_giveAll_16 rfl rfl ?_
      refine e_getR (pc := 17) dX0_giveAll_17 hs_X0_37 (fun r3 => ?_)
      refine e_iload_n (pc := 20) dX0_giveAll_20 rfl rfl ?_
      refine e_iload_n (pc := 21) dX0_giveAll_21 rfl rfl ?_
      refine e_iast (pc := 22) dX0_giveAll_22 (fun w4 => ?_)
      refine e_iinc (L' := [some (.ref a0), some (.int a1), some (.int a2), some (.int (b3 + 1))]) (pc := 23) (v := 1) dX0_giveAll_23 (by decide) rfl kc_1 rfl ?_
      refine e_goto (pc := 26) (tgt := 2) dX0_giveAll_26 (by decide) ?_
      exact hk2 (b3 + 1) w4
def f_X0_giveAll (a0 : Nat) (a1 : Int32) (a2 : Int32) (w : aW) : Option (Unit × aW) :=
  loop2 (c_X0_giveAll_2 a0 a1 a2) a_fuel (0 : Int32) w
theorem s_X0_giveAll (a0 : Nat) (a1 : Int32) (a2 : Int32) (w : aW) : Sp rvV M_X0_giveAll [.ref a0, .int a1, .int a2] w (f_X0_giveAll a0 a1 a2 w) := by
  refine e_entry [some (.ref a0), some (.int a1), some (.int a2), none] (by decide +kernel) (Nat.le_of_ble_eq_true rfl) (fun _ => rfl) ?_
  unfold f_X0_giveAll
  refine e_iconst (pc := 0) dX0_giveAll_0 kc_0 ?_
  refine e_istore_n (L' := [some (.ref a0), some (.int a1), some (.int a2), some (.int (0 : Int32))]) (pc := 1) dX0_giveAll_1 rfl (by decide) rfl ?_
  exact e_loop2 (L := fun b3 => [some (.ref a0), some (.int a1), some (.int a2), some (.int b3)]) (S := fun b3 => []) (fun kf hkf => t_X0_giveAll_2 a0 a1 a2  kf hkf) _ (0 : Int32) w
def M_X2_workOf : aM := (yX2_workOf, cX2_workOf, 4, (some .int), 0, 0)
theorem ok_X2_workOf : a_okM M_X2_workOf 2 := ⟨⟨by decide +kernel, by decide +kernel⟩, by decide +kernel, a_in 365 (by decide +kernel) rfl, a_in 82 (by decide +kernel) rfl⟩
theorem dX2_workOf_0 : decode M_X2_workOf.2.1 0 = .ok (.iconst 2, 1) := by decide +kernel
theorem dX2_workOf_1 : decode M_X2_workOf.2.1 1 = .ok (.iload_n 1, 1) := by decide +kernel
theorem dX2_workOf_2 : decode M_X2_workOf.2.1 2 = .ok (.imul, 1) := by decide +kernel
theorem dX2_workOf_3 : decode M_X2_workOf.2.1 3 = .ok (.istore_n 2, 1) := by decide +kernel
theorem dX2_workOf_4 : decode M_X2_workOf.2.1 4 = .ok (.iload_n 2, 1) := by decide +kernel
theorem dX2_workOf_5 : decode M_X2_workOf.2.1 5 = .ok (.iconst 2, 1) := by decide +kernel
theorem dX2_workOf_6 : decode M_X2_workOf.2.1 6 = .ok (.iadd, 1) := by decide +kernel
theorem dX2_workOf_7 : decode M_X2_workOf.2.1 7 = .ok (.istore_n 3, 1) := by decide +kernel
theorem dX2_workOf_8 : decode M_X2_workOf.2.1 8 = .ok (.iload_n 0, 1) := by decide +kernel
theorem dX2_workOf_9 : decode M_X2_workOf.2.1 9 = .ok (.tableswitch 55 0 6 #[43, 55, 45, 47, 49, 55, 51], 43) := by decide +kernel
theorem dX2_workOf_52 : decode M_X2_workOf.2.1 52 = .ok (.iconst 3, 1) := by decide +kernel
theorem dX2_workOf_53 : decode M_X2_workOf.2.1 53 = .ok (.ireturn, 1) := by decide +kernel
theorem dX2_workOf_54 : decode M_X2_workOf.2.1 54 = .ok (.iload_n 2, 1) := by decide +kernel
theorem dX2_workOf_55 : decode M_X2_workOf.2.1 55 = .ok (.ireturn, 1) := by decide +kernel
theorem dX2_workOf_56 : decode M_X2_workOf.2.1 56 = .ok (.iload_n 3, 1) := by decide +kernel
theorem dX2_workOf_57 : decode M_X2_workOf.2.1 57 = .ok (.ireturn, 1) := by decide +kernel
theorem dX2_workOf_58 : decode M_X2_workOf.2.1 58 = .ok (.iconst 1, 1) := by decide +kernel
theorem dX2_workOf_59 : decode M_X2_workOf.2.1 59 = .ok (.ireturn, 1) := by decide +kernel
theorem dX2_workOf_60 : decode M_X2_workOf.2.1 60 = .ok (.iload_n 3, 1) := by decide +kernel
theorem dX2_workOf_61 : decode M_X2_workOf.2.1 61 = .ok (.iconst 1, 1) := by decide +kernel
theorem dX2_workOf_62 : decode M_X2_workOf.2.1 62 = .ok (.isub, 1) := by decide +kernel
theorem dX2_workOf_63 : decode M_X2_workOf.2.1 63 = .ok (.ireturn, 1) := by decide +kernel
theorem dX2_workOf_64 : decode M_X2_workOf.2.1 64 = .ok (.iconst 0, 1) := by decide +kernel
theorem dX2_workOf_65 : decode M_X2_workOf.2.1 65 = .ok (.ireturn, 1) := by decide +kernel
def f_X2_workOf (a0 : Int32) (a1 : Int32) (w : aW) : Option (Int32 × aW) :=
  if a0 = (0 : Int32) then
    some ((3 : Int32), w)
  else
    if a0 = (1 : Int32) then
      some ((0 : Int32), w)
    else
      if a0 = (2 : Int32) then
        some (((2 : Int32) * a1), w)
      else
        if a0 = (3 : Int32) then
          some ((((2 : Int32) * a1) + (2 : Int32)), w)
        else
          if a0 = (4 : Int32) then
            some ((1 : Int32), w)
          else
            if a0 = (5 : Int32) then
              some ((0 : Int32), w)
            else
              if a0 = (6 : Int32) then
                some (((((2 : Int32) * a1) + (2 : Int32)) - (1 : Int32)), w)
              else
                some ((0 : Int32), w)
theorem s_X2_workOf (a0 : Int32) (a1 : Int32) (w : aW) : Sp rvI M_X2_workOf [.int a0, .int a1] w (f_X2_workOf a0 a1 w) := by
  refine e_entry [some (.int a0), some (.int a1), none, none] (by decide +kernel) (Nat.le_of_ble_eq_true rfl) (fun _ => rfl) ?_
  unfold f_X2_workOf
  refine e_iconst (pc := 0) dX2_workOf_0 kc_2 ?_
  refine e_iload_n (pc := 1) dX2_workOf_1 rfl rfl ?_
  refine e_imul (pc := 2) dX2_workOf_2 ?_
  refine e_istore_n (L' := [some (.int a0), some (.int a1), some (.int ((2 : Int32) * a1)), none]) (pc := 3) dX2_workOf_3 rfl (by decide) rfl ?_
  refine e_iload_n (pc := 4) dX2_workOf_4 rfl rfl ?_
  refine e_iconst (pc := 5) dX2_workOf_5 kc_2 ?_
  refine e_iadd (pc := 6) dX2_workOf_6 ?_
  refine e_istore_n (L' := [some (.int a0), some (.int a1), some (.int ((2 : Int32) * a1)), some (.int (((2 : Int32) * a1) + (2 : Int32)))]) (pc := 7) dX2_workOf_7 rfl (by decide) rfl ?_
  refine e_iload_n (pc := 8) dX2_workOf_8 rfl rfl ?_
  refine e_ite (fun h1 => ?_) (fun h1 => ?_)
  · refine e_tabIn (pc := 9) (v := 0) (j := 0) (tgt := 52) dX2_workOf_9 h1 rfl (by decide) (by decide) rfl (by decide) ?_
    refine e_iconst (pc := 52) dX2_workOf_52 kc_3 ?_
    exact e_iret (pc := 53) dX2_workOf_53 rfl rfl
  · refine e_ite (fun h2 => ?_) (fun h2 => ?_)
    · refine e_tabIn (pc := 9) (v := 1) (j := 1) (tgt := 64) dX2_workOf_9 h2 rfl (by decide) (by decide) rfl (by decide) ?_
      refine e_iconst (pc := 64) dX2_workOf_64 kc_0 ?_
      exact e_iret (pc := 65) dX2_workOf_65 rfl rfl
    · refine e_ite (fun h3 => ?_) (fun h3 => ?_)
      · refine e_tabIn (pc := 9) (v := 2) (j := 2) (tgt := 54) dX2_workOf_9 h3 rfl (by decide) (by decide) rfl (by decide) ?_
        refine e_iload_n (pc := 54) dX2_workOf_54 rfl rfl ?_
        exact e_iret (pc := 55) dX2_workOf_55 rfl rfl
      · refine e_ite (fun h4 => ?_) (fun h4 => ?_)
        · refine e_tabIn (pc := 9) (v := 3) (j := 3) (tgt := 56) dX2_workOf_9 h4 rfl (by decide) (by decide) rfl (by decide) ?_
          refine e_iload_n (pc := 56) dX2_workOf_56 rfl rfl ?_
          exact e_iret (pc := 57) dX2_workOf_57 rfl rfl
        · refine e_ite (fun h5 => ?_) (fun h5 => ?_)
          · refine e_tabIn (pc := 9) (v := 4) (j := 4) (tgt := 58) dX2_workOf_9 h5 rfl (by decide) (by decide) rfl (by decide) ?_
            refine e_iconst (pc := 58) dX2_workOf_58 kc_1 ?_
            exact e_iret (pc := 59) dX2_workOf_59 rfl rfl
          · refine e_ite (fun h6 => ?_) (fun h6 => ?_)
            · refine e_tabIn (pc := 9) (v := 5) (j := 5) (tgt := 64) dX2_workOf_9 h6 rfl (by decide) (by decide) rfl (by decide) ?_
              refine e_iconst (pc := 64) dX2_workOf_64 kc_0 ?_
              exact e_iret (pc := 65) dX2_workOf_65 rfl rfl
            · refine e_ite (fun h7 => ?_) (fun h7 => ?_)
              · refine e_tabIn (pc := 9) (v := 6) (j := 6) (tgt := 60) dX2_workOf_9 h7 rfl (by decide) (by decide) rfl (by decide) ?_
                refine e_iload_n (pc := 60) dX2_workOf_60 rfl rfl ?_
                refine e_iconst (pc := 61) dX2_workOf_61 kc_1 ?_
                refine e_isub (pc := 62) dX2_workOf_62 ?_
                exact e_iret (pc := 63) dX2_workOf_63 rfl rfl
              · refine e_tabOut (pc := 9) (tgt := 64) dX2_workOf_9 (by have z0 := lv_neT h1 (show (0 : Int32).toInt = 0 from rfl); have z1 := lv_neT h2 (show (1 : Int32).toInt = 1 from rfl); have z2 := lv_neT h3 (show (2 : Int32).toInt = 2 from rfl); have z3 := lv_neT h4 (show (3 : Int32).toInt = 3 from rfl); have z4 := lv_neT h5 (show (4 : Int32).toInt = 4 from rfl); have z5 := lv_neT h6 (show (5 : Int32).toInt = 5 from rfl); have z6 := lv_neT h7 (show (6 : Int32).toInt = 6 from rfl); omega) (by decide) ?_
                refine e_iconst (pc := 64) dX2_workOf_64 kc_0 ?_
                exact e_iret (pc := 65) dX2_workOf_65 rfl rfl
def M_X0_strongOneOf : aM := (yX0_strongOneOf, cX0_strongOneOf, 5, (some .int), 1, 23)
theorem ok_X0_strongOneOf : a_okM M_X0_strongOneOf 1 := ⟨⟨by decide +kernel, by decide +kernel⟩, by decide +kernel, a_in 362 (by decide +kernel) rfl, a_in 77 (by decide +kernel) rfl⟩
theorem dX0_strongOneOf_0 : decode M_X0_strongOneOf.2.1 0 = .ok (.iconst 3, 1) := by decide +kernel
theorem dX0_strongOneOf_1 : decode M_X0_strongOneOf.2.1 1 = .ok (.istore_n 2, 1) := by decide +kernel
theorem dX0_strongOneOf_2 : decode M_X0_strongOneOf.2.1 2 = .ok (.iconst 0, 1) := by decide +kernel
theorem dX0_strongOneOf_3 : decode M_X0_strongOneOf.2.1 3 = .ok (.istore_n 3, 1) := by decide +kernel
theorem dX0_strongOneOf_4 : decode M_X0_strongOneOf.2.1 4 = .ok (.iconst 0, 1) := by decide +kernel
theorem dX0_strongOneOf_5 : decode M_X0_strongOneOf.2.1 5 = .ok (.istore 4, 2) := by decide +kernel
theorem dX0_strongOneOf_7 : decode M_X0_strongOneOf.2.1 7 = .ok (.iload 4, 2) := by decide +kernel
theorem dX0_strongOneOf_9 : decode M_X0_strongOneOf.2.1 9 = .ok (.bipush 9, 2) := by decide +kernel
theorem dX0_strongOneOf_11 : decode M_X0_strongOneOf.2.1 11 = .ok (.if_icmp .ge 62, 3) := by decide +kernel
theorem dX0_strongOneOf_14 : decode M_X0_strongOneOf.2.1 14 = .ok (.iload_n 1, 1) := by decide +kernel
theorem dX0_strongOneOf_15 : decode M_X0_strongOneOf.2.1 15 = .ok (.iload 4, 2) := by decide +kernel
theorem dX0_strongOneOf_17 : decode M_X0_strongOneOf.2.1 17 = .ok (.invokestatic 91, 3) := by decide +kernel
theorem dX0_strongOneOf_20 : decode M_X0_strongOneOf.2.1 20 = .ok (.ifCond .eq 47, 3) := by decide +kernel
theorem dX0_strongOneOf_23 : decode M_X0_strongOneOf.2.1 23 = .ok (.aload_n 0, 1) := by decide +kernel
theorem dX0_strongOneOf_24 : decode M_X0_strongOneOf.2.1 24 = .ok (.getfield 24, 3) := by decide +kernel
theorem dX0_strongOneOf_27 : decode M_X0_strongOneOf.2.1 27 = .ok (.iload 4, 2) := by decide +kernel
theorem dX0_strongOneOf_29 : decode M_X0_strongOneOf.2.1 29 = .ok (.iaload, 1) := by decide +kernel
theorem dX0_strongOneOf_30 : decode M_X0_strongOneOf.2.1 30 = .ok (.aload_n 0, 1) := by decide +kernel
theorem dX0_strongOneOf_31 : decode M_X0_strongOneOf.2.1 31 = .ok (.getfield 28, 3) := by decide +kernel
theorem dX0_strongOneOf_34 : decode M_X0_strongOneOf.2.1 34 = .ok (.iload 4, 2) := by decide +kernel
theorem dX0_strongOneOf_36 : decode M_X0_strongOneOf.2.1 36 = .ok (.iaload, 1) := by decide +kernel
theorem dX0_strongOneOf_37 : decode M_X0_strongOneOf.2.1 37 = .ok (.invokestatic 131, 3) := by decide +kernel
theorem dX0_strongOneOf_40 : decode M_X0_strongOneOf.2.1 40 = .ok (.iload_n 2, 1) := by decide +kernel
theorem dX0_strongOneOf_41 : decode M_X0_strongOneOf.2.1 41 = .ok (.if_icmp .le 26, 3) := by decide +kernel
theorem dX0_strongOneOf_44 : decode M_X0_strongOneOf.2.1 44 = .ok (.aload_n 0, 1) := by decide +kernel
theorem dX0_strongOneOf_45 : decode M_X0_strongOneOf.2.1 45 = .ok (.getfield 24, 3) := by decide +kernel
theorem dX0_strongOneOf_48 : decode M_X0_strongOneOf.2.1 48 = .ok (.iload 4, 2) := by decide +kernel
theorem dX0_strongOneOf_50 : decode M_X0_strongOneOf.2.1 50 = .ok (.iaload, 1) := by decide +kernel
theorem dX0_strongOneOf_51 : decode M_X0_strongOneOf.2.1 51 = .ok (.aload_n 0, 1) := by decide +kernel
theorem dX0_strongOneOf_52 : decode M_X0_strongOneOf.2.1 52 = .ok (.getfield 28, 3) := by decide +kernel
theorem dX0_strongOneOf_55 : decode M_X0_strongOneOf.2.1 55 = .ok (.iload 4, 2) := by decide +kernel
theorem dX0_strongOneOf_57 : decode M_X0_strongOneOf.2.1 57 = .ok (.iaload, 1) := by decide +kernel
theorem dX0_strongOneOf_58 : decode M_X0_strongOneOf.2.1 58 = .ok (.invokestatic 131, 3) := by decide +kernel
theorem dX0_strongOneOf_61 : decode M_X0_strongOneOf.2.1 61 = .ok (.istore_n 2, 1) := by decide +kernel
theorem dX0_strongOneOf_62 : decode M_X0_strongOneOf.2.1 62 = .ok (.iconst 1, 1) := by decide +kernel
theorem dX0_strongOneOf_63 : decode M_X0_strongOneOf.2.1 63 = .ok (.iload 4, 2) := by decide +kernel
theorem dX0_strongOneOf_65 : decode M_X0_strongOneOf.2.1 65 = .ok (.ishl, 1) := by decide +kernel
theorem dX0_strongOneOf_66 : decode M_X0_strongOneOf.2.1 66 = .ok (.istore_n 3, 1) := by decide +kernel
theorem dX0_strongOneOf_67 : decode M_X0_strongOneOf.2.1 67 = .ok (.iinc 4 1, 3) := by decide +kernel
theorem dX0_strongOneOf_70 : decode M_X0_strongOneOf.2.1 70 = .ok (.goto (-63), 3) := by decide +kernel
theorem dX0_strongOneOf_73 : decode M_X0_strongOneOf.2.1 73 = .ok (.iload_n 3, 1) := by decide +kernel
theorem dX0_strongOneOf_74 : decode M_X0_strongOneOf.2.1 74 = .ok (.ireturn, 1) := by decide +kernel
theorem ht_X0_131 : a_okS RX0 M_X2_workOf 131 := ⟨a_in 363 (by decide +kernel) rfl, a_in 364 (by decide +kernel) rfl⟩
def c_X0_strongOneOf_7 (a0 : Nat) (a1 : Int32) (k7 : Int32 → Int32 → Int32 → aW → Option (Int32 × aW)) (b2 : Int32) (b3 : Int32) (b4 : Int32) (w : aW) : Option (Int32 × aW) :=
  if (9 : Int32) ≤ b4 then
    some (b3, w)
  else
    bk (f_X3_has a1 b4 w) fun x2 w1 =>
    if x2 = (0 : Int32) then
      k7 b2 b3 (b4 + 1) w1
    else
      (gR 0 w1 a0 4).bind fun r3 =>
      (gA w1 r3 b4).bind fun x4 =>
      (gR 0 w1 a0 5).bind fun r5 =>
      (gA w1 r5 b4).bind fun x6 =>
      bk (f_X2_workOf x4 x6 w1) fun x8 w7 =>
      if x8 ≤ b2 then
        k7 b2 b3 (b4 + 1) w7
      else
        (gR 0 w7 a0 4).bind fun r9 =>
        (gA w7 r9 b4).bind fun x10 =>
        (gR 0 w7 a0 5).bind fun r11 =>
        (gA w7 r11 b4).bind fun x12 =>
        bk (f_X2_workOf x10 x12 w7) fun x14 w13 =>
        k7 x14 ((1 : Int32) <<< (b4 &&& 31)) (b4 + 1) w13
theorem t_X0_strongOneOf_7 (a0 : Nat) (a1 : Int32) (k7 : Int32 → Int32 → Int32 → aW → Option (Int32 × aW)) (hk7 : ∀ (b2 : Int32) (b3 : Int32) (b4 : Int32) (w : aW), Ev rvI M_X0_strongOneOf 7 [some (.ref a0), some (.int a1), some (.int b2), some (.int b3), some (.int b4)] [] w (k7 b2 b3 b4 w)) (b2 : Int32) (b3 : Int32) (b4 : Int32) (w : aW) : Ev rvI M_X0_strongOneOf 7 [some (.ref a0), some (.int a1), some (.int b2), some (.int b3), some (.int b4)] [] w (c_X0_strongOneOf_7 a0 a1 k7 b2 b3 b4 w) := by
  unfold c_X0_strongOneOf_7
  refine e_iload (pc := 7) dX0_strongOneOf_7 rfl ?_
  refine e_bipush (pc := 9) dX0_strongOneOf_9 kb_9 ?_
  refine e_icmp_ge (pc := 11) (tgt := 73) dX0_strongOneOf_11 (by decide) (fun _ => ?_) (fun _ => ?_)
  · refine e_iload_n (pc := 73) dX0_strongOneOf_73 rfl rfl ?_
    exact e_iret (pc := 74) dX0_strongOneOf_74 rfl rfl
  · refine e_iload_n (pc := 14) dX0_strongOneOf_14 rfl rfl ?_
    refine e_iload (pc := 15) dX0_strongOneOf_15 rfl ?_
    refine e_callN (pc := 17) (av := [.int a1, .int b4]) (S := []) ok_X3_has ⟨Nat.le_of_ble_eq_true rfl, Nat.le_of_ble_eq_true rfl⟩ hn_X0_91 dX0_strongOneOf_17 (s_X3_has a1 b4 w) rfl rfl (Nat.le_of_ble_eq_true rfl) (fun x2 w1 => ?_)
    refine e_if_eq (pc := 20) (tgt := 67) dX0_strongOneOf_20 (by decide) (fun _ => ?_) (fun _ => ?_)
    · refine e_iinc (L' := [some (.ref a0), some (.int a1), some (.int b2), some (.int b3), some (.int (b4 + 1))]) (pc := 67) (v := 1) dX0_strongOneOf_67 (by decide) rfl kc_1 rfl ?_
      refine e_goto (pc := 70) (tgt := 7) dX0_strongOneOf_70 (by decide) ?_
      exact hk7 b2 b3 (b4 + 1) w1
    · refine e_aload_n (pc := 23) dX0_strongOneOf_23 rfl rfl ?_
      refine e_getR (pc := 24) dX0_strongOneOf_24 hs_X0_24 (fun r3 => ?_)
      refine e_iload (pc := 27) dX0_strongOneOf_27 rfl ?_
      refine e_iald (pc := 29) dX0_strongOneOf_29 (fun x4 => ?_)
      refine e_aload_n (pc := 30) dX0_strongOneOf_30 rfl rfl ?_
      refine e_getR (pc := 31) dX0_strongOneOf_31 hs_X0_28 (fun r5 => ?_)
      refine e_iload (pc := 34) dX0_strongOneOf_34 rfl ?_
      refine e_iald (pc := 36) dX0_strongOneOf_36 (fun x6 => ?_)
      refine e_callS (pc := 37) (av := [.int x4, .int x6]) (S := []) ok_X2_workOf ⟨Nat.le_of_ble_eq_true rfl, Nat.le_of_ble_eq_true rfl⟩ ht_X0_131 dX0_strongOneOf_37 (s_X2_workOf x4 x6 w1) rfl rfl (Nat.le_of_ble_eq_true rfl) (fun x8 w7 => ?_)
      refine e_iload_n (pc := 40) dX0_strongOneOf_40 rfl rfl ?_
      refine e_icmp_le (pc := 41) (tgt := 67) dX0_strongOneOf_41 (by decide) (fun _ => ?_) (fun _ => ?_)
      · refine e_iinc (L' := [some (.ref a0), some (.int a1), some (.int b2), some (.int b3), some (.int (b4 + 1))]) (pc := 67) (v := 1) dX0_strongOneOf_67 (by decide) rfl kc_1 rfl ?_
        refine e_goto (pc := 70) (tgt := 7) dX0_strongOneOf_70 (by decide) ?_
        exact hk7 b2 b3 (b4 + 1) w7
      · refine e_aload_n (pc := 44) dX0_strongOneOf_44 rfl rfl ?_
        refine e_getR (pc := 45) dX0_strongOneOf_45 hs_X0_24 (fun r9 => ?_)
        refine e_iload (pc := 48) dX0_strongOneOf_48 rfl ?_
        refine e_iald (pc := 50) dX0_strongOneOf_50 (fun x10 => ?_)
        refine e_aload_n (pc := 51) dX0_strongOneOf_51 rfl rfl ?_
        refine e_getR (pc := 52) dX0_strongOneOf_52 hs_X0_28 (fun r11 => ?_)
        refine e_iload (pc := 55) dX0_strongOneOf_55 rfl ?_
        refine e_iald (pc := 57) dX0_strongOneOf_57 (fun x12 => ?_)
        refine e_callS (pc := 58) (av := [.int x10, .int x12]) (S := []) ok_X2_workOf ⟨Nat.le_of_ble_eq_true rfl, Nat.le_of_ble_eq_true rfl⟩ ht_X0_131 dX0_strongOneOf_58 (s_X2_workOf x10 x12 w7) rfl rfl (Nat.le_of_ble_eq_true rfl) (fun x14 w13 => ?_)
        refine e_istore_n (L' := [some (.ref a0), some (.int a1), some (.int x14), some (.int b3), some (.int b4)]) (pc := 61) dX0_strongOneOf_61 rfl (by decide) rfl ?_
        refine e_iconst (pc := 62) dX0_strongOneOf_62 kc_1 ?_
        refine e_iload (pc := 63) dX0_strongOneOf_63 rfl ?_
        refine e_ishl (pc := 65) dX0_strongOneOf_65 ?_
        refine e_istore_n (L' := [some (.ref a0), some (.int a1), some (.int x14), some (.int ((1 : Int32) <<< (b4 &&& 31))), some (.int b4)]) (pc := 66) dX0_strongOneOf_66 rfl (by decide) rfl ?_
        refine e_iinc (L' := [some (.ref a0), some (.int a1), some (.int x14), some (.int ((1 : Int32) <<< (b4 &&& 31))), some (.int (b4 + 1))]) (pc := 67) (v := 1) dX0_strongOneOf_67 (by decide) rfl kc_1 rfl ?_
        refine e_goto (pc := 70) (tgt := 7) dX0_strongOneOf_70 (by decide) ?_
        exact hk7 x14 ((1 : Int32) <<< (b4 &&& 31)) (b4 + 1) w13
def f_X0_strongOneOf (a0 : Nat) (a1 : Int32) (w : aW) : Option (Int32 × aW) :=
  loop4 (c_X0_strongOneOf_7 a0 a1) a_fuel (3 : Int32) (0 : Int32) (0 : Int32) w
theorem s_X0_strongOneOf (a0 : Nat) (a1 : Int32) (w : aW) : Sp rvI M_X0_strongOneOf [.ref a0, .int a1] w (f_X0_strongOneOf a0 a1 w) := by
  refine e_entry [some (.ref a0), some (.int a1), none, none, none] (by decide +kernel) (Nat.le_of_ble_eq_true rfl) (fun _ => rfl) ?_
  unfold f_X0_strongOneOf
  refine e_iconst (pc := 0) dX0_strongOneOf_0 kc_3 ?_
  refine e_istore_n (L' := [some (.ref a0), some (.int a1), some (.int (3 : Int32)), none, none]) (pc := 1) dX0_strongOneOf_1 rfl (by decide) rfl ?_
  refine e_iconst (pc := 2) dX0_strongOneOf_2 kc_0 ?_
  refine e_istore_n (L' := [some (.ref a0), some (.int a1), some (.int (3 : Int32)), some (.int (0 : Int32)), none]) (pc := 3) dX0_strongOneOf_3 rfl (by decide) rfl ?_
  refine e_iconst (pc := 4) dX0_strongOneOf_4 kc_0 ?_
  refine e_istore (L' := [some (.ref a0), some (.int a1), some (.int (3 : Int32)), some (.int (0 : Int32)), some (.int (0 : Int32))]) (pc := 5) dX0_strongOneOf_5 (by decide) rfl ?_
  exact e_loop4 (L := fun b2 b3 b4 => [some (.ref a0), some (.int a1), some (.int b2), some (.int b3), some (.int b4)]) (S := fun b2 b3 b4 => []) (fun kf hkf => t_X0_strongOneOf_7 a0 a1  kf hkf) _ (3 : Int32) (0 : Int32) (0 : Int32) w
def M_X0_speak : aM := (yX0_speak, cX0_speak, 3, none, 2, 47)
theorem ok_X0_speak : a_okM M_X0_speak 1 := ⟨⟨by decide +kernel, by decide +kernel⟩, by decide +kernel, a_in 343 (by decide +kernel) rfl, a_in 77 (by decide +kernel) rfl⟩
theorem dX0_speak_0 : decode M_X0_speak.2.1 0 = .ok (.aload_n 0, 1) := by decide +kernel
theorem dX0_speak_1 : decode M_X0_speak.2.1 1 = .ok (.getfield 46, 3) := by decide +kernel
theorem dX0_speak_4 : decode M_X0_speak.2.1 4 = .ok (.iload_n 1, 1) := by decide +kernel
theorem dX0_speak_5 : decode M_X0_speak.2.1 5 = .ok (.iaload, 1) := by decide +kernel
theorem dX0_speak_6 : decode M_X0_speak.2.1 6 = .ok (.ifCond .ne 4, 3) := by decide +kernel
theorem dX0_speak_9 : decode M_X0_speak.2.1 9 = .ok (.return_, 1) := by decide +kernel
theorem dX0_speak_10 : decode M_X0_speak.2.1 10 = .ok (.aload_n 0, 1) := by decide +kernel
theorem dX0_speak_11 : decode M_X0_speak.2.1 11 = .ok (.aload_n 0, 1) := by decide +kernel
theorem dX0_speak_12 : decode M_X0_speak.2.1 12 = .ok (.getfield 43, 3) := by decide +kernel
theorem dX0_speak_15 : decode M_X0_speak.2.1 15 = .ok (.iload_n 1, 1) := by decide +kernel
theorem dX0_speak_16 : decode M_X0_speak.2.1 16 = .ok (.iaload, 1) := by decide +kernel
theorem dX0_speak_17 : decode M_X0_speak.2.1 17 = .ok (.invokevirtual 119, 3) := by decide +kernel
theorem dX0_speak_20 : decode M_X0_speak.2.1 20 = .ok (.istore_n 2, 1) := by decide +kernel
theorem dX0_speak_21 : decode M_X0_speak.2.1 21 = .ok (.aload_n 0, 1) := by decide +kernel
theorem dX0_speak_22 : decode M_X0_speak.2.1 22 = .ok (.getfield 46, 3) := by decide +kernel
theorem dX0_speak_25 : decode M_X0_speak.2.1 25 = .ok (.iload_n 1, 1) := by decide +kernel
theorem dX0_speak_26 : decode M_X0_speak.2.1 26 = .ok (.iaload, 1) := by decide +kernel
theorem dX0_speak_27 : decode M_X0_speak.2.1 27 = .ok (.tableswitch 60 1 3 #[25, 38, 51], 25) := by decide +kernel
theorem dX0_speak_52 : decode M_X0_speak.2.1 52 = .ok (.aload_n 0, 1) := by decide +kernel
theorem dX0_speak_53 : decode M_X0_speak.2.1 53 = .ok (.aload_n 0, 1) := by decide +kernel
theorem dX0_speak_54 : decode M_X0_speak.2.1 54 = .ok (.iload_n 2, 1) := by decide +kernel
theorem dX0_speak_55 : decode M_X0_speak.2.1 55 = .ok (.invokevirtual 122, 3) := by decide +kernel
theorem dX0_speak_58 : decode M_X0_speak.2.1 58 = .ok (.iload_n 1, 1) := by decide +kernel
theorem dX0_speak_59 : decode M_X0_speak.2.1 59 = .ok (.invokevirtual 125, 3) := by decide +kernel
theorem dX0_speak_62 : decode M_X0_speak.2.1 62 = .ok (.goto 25, 3) := by decide +kernel
theorem dX0_speak_65 : decode M_X0_speak.2.1 65 = .ok (.aload_n 0, 1) := by decide +kernel
theorem dX0_speak_66 : decode M_X0_speak.2.1 66 = .ok (.aload_n 0, 1) := by decide +kernel
theorem dX0_speak_67 : decode M_X0_speak.2.1 67 = .ok (.iload_n 2, 1) := by decide +kernel
theorem dX0_speak_68 : decode M_X0_speak.2.1 68 = .ok (.invokevirtual 128, 3) := by decide +kernel
theorem dX0_speak_71 : decode M_X0_speak.2.1 71 = .ok (.iload_n 1, 1) := by decide +kernel
theorem dX0_speak_72 : decode M_X0_speak.2.1 72 = .ok (.invokevirtual 125, 3) := by decide +kernel
theorem dX0_speak_75 : decode M_X0_speak.2.1 75 = .ok (.goto 12, 3) := by decide +kernel
theorem dX0_speak_78 : decode M_X0_speak.2.1 78 = .ok (.aload_n 0, 1) := by decide +kernel
theorem dX0_speak_79 : decode M_X0_speak.2.1 79 = .ok (.iload_n 2, 1) := by decide +kernel
theorem dX0_speak_80 : decode M_X0_speak.2.1 80 = .ok (.iload_n 1, 1) := by decide +kernel
theorem dX0_speak_81 : decode M_X0_speak.2.1 81 = .ok (.invokevirtual 125, 3) := by decide +kernel
theorem dX0_speak_84 : decode M_X0_speak.2.1 84 = .ok (.goto 3, 3) := by decide +kernel
theorem dX0_speak_87 : decode M_X0_speak.2.1 87 = .ok (.return_, 1) := by decide +kernel
theorem hv_X0_119 : a_okV RX0 M_X0_freeOnesAt 119 := ⟨a_in 344 (by decide +kernel) rfl, a_in 346 (by decide +kernel) rfl, a_in 5 (by decide +kernel) rfl⟩
theorem hv_X0_122 : a_okV RX0 M_X0_hungryOneOf 122 := ⟨a_in 348 (by decide +kernel) rfl, a_in 350 (by decide +kernel) rfl, a_in 6 (by decide +kernel) rfl⟩
theorem hv_X0_125 : a_okV RX0 M_X0_giveAll 125 := ⟨a_in 355 (by decide +kernel) rfl, a_in 356 (by decide +kernel) rfl, a_in 357 (by decide +kernel) rfl⟩
theorem hv_X0_128 : a_okV RX0 M_X0_strongOneOf 128 := ⟨a_in 359 (by decide +kernel) rfl, a_in 361 (by decide +kernel) rfl, a_in 7 (by decide +kernel) rfl⟩
def f_X0_speak (a0 : Nat) (a1 : Int32) (w : aW) : Option (Unit × aW) :=
  (gR 0 w a0 11).bind fun r1 =>
  (gA w r1 a1).bind fun x2 =>
  if ¬ x2 = (0 : Int32) then
    (gR 0 w a0 10).bind fun r3 =>
    (gA w r3 a1).bind fun x4 =>
    cV 0 w a0 (bk (f_X0_freeOnesAt a0 x4 w) fun x6 w5 =>
    (gR 0 w5 a0 11).bind fun r7 =>
    (gA w5 r7 a1).bind fun x8 =>
    if x8 = (1 : Int32) then
      cV 0 w5 a0 (bk (f_X0_hungryOneOf a0 x6 w5) fun x11 w10 =>
      cV 0 w10 a0 (bk (f_X0_giveAll a0 x11 a1 w10) fun _ w12 =>
      some ((), w12)))
    else
      if x8 = (2 : Int32) then
        cV 0 w5 a0 (bk (f_X0_strongOneOf a0 x6 w5) fun x15 w14 =>
        cV 0 w14 a0 (bk (f_X0_giveAll a0 x15 a1 w14) fun _ w16 =>
        some ((), w16)))
      else
        if x8 = (3 : Int32) then
          cV 0 w5 a0 (bk (f_X0_giveAll a0 x6 a1 w5) fun _ w18 =>
          some ((), w18))
        else
          some ((), w5))
  else
    some ((), w)
theorem s_X0_speak (a0 : Nat) (a1 : Int32) (w : aW) : Sp rvV M_X0_speak [.ref a0, .int a1] w (f_X0_speak a0 a1 w) := by
  refine e_entry [some (.ref a0), some (.int a1), none] (by decide +kernel) (Nat.le_of_ble_eq_true rfl) (fun _ => rfl) ?_
  unfold f_X0_speak
  refine e_aload_n (pc := 0) dX0_speak_0 rfl rfl ?_
  refine e_getR (pc := 1) dX0_speak_1 hs_X0_46 (fun r1 => ?_)
  refine e_iload_n (pc := 4) dX0_speak_4 rfl rfl ?_
  refine e_iald (pc := 5) dX0_speak_5 (fun x2 => ?_)
  refine e_if_ne (pc := 6) (tgt := 10) dX0_speak_6 (by decide) (fun _ => ?_) (fun _ => ?_)
  · refine e_aload_n (pc := 10) dX0_speak_10 rfl rfl ?_
    refine e_aload_n (pc := 11) dX0_speak_11 rfl rfl ?_
    refine e_getR (pc := 12) dX0_speak_12 hs_X0_43 (fun r3 => ?_)
    refine e_iload_n (pc := 15) dX0_speak_15 rfl rfl ?_
    refine e_iald (pc := 16) dX0_speak_16 (fun x4 => ?_)
    refine e_callV (pc := 17) (av := [.int x4]) (S := []) (c0 := 0) rfl rfl ok_X0_freeOnesAt ⟨Nat.le_of_ble_eq_true rfl, Nat.le_of_ble_eq_true rfl⟩ hv_X0_119 dX0_speak_17 (s_X0_freeOnesAt a0 x4 w) rfl rfl (Nat.le_of_ble_eq_true rfl) (fun x6 w5 => ?_)
    refine e_istore_n (L' := [some (.ref a0), some (.int a1), some (.int x6)]) (pc := 20) dX0_speak_20 rfl (by decide) rfl ?_
    refine e_aload_n (pc := 21) dX0_speak_21 rfl rfl ?_
    refine e_getR (pc := 22) dX0_speak_22 hs_X0_46 (fun r7 => ?_)
    refine e_iload_n (pc := 25) dX0_speak_25 rfl rfl ?_
    refine e_iald (pc := 26) dX0_speak_26 (fun x8 => ?_)
    refine e_ite (fun h9 => ?_) (fun h9 => ?_)
    · refine e_tabIn (pc := 27) (v := 1) (j := 1) (tgt := 52) dX0_speak_27 h9 rfl (by decide) (by decide) rfl (by decide) ?_
      refine e_aload_n (pc := 52) dX0_speak_52 rfl rfl ?_
      refine e_aload_n (pc := 53) dX0_speak_53 rfl rfl ?_
      refine e_iload_n (pc := 54) dX0_speak_54 rfl rfl ?_
      refine e_callV (pc := 55) (av := [.int x6]) (S := [.ref a0]) (c0 := 0) rfl rfl ok_X0_hungryOneOf ⟨Nat.le_of_ble_eq_true rfl, Nat.le_of_ble_eq_true rfl⟩ hv_X0_122 dX0_speak_55 (s_X0_hungryOneOf a0 x6 w5) rfl rfl (Nat.le_of_ble_eq_true rfl) (fun x11 w10 => ?_)
      refine e_iload_n (pc := 58) dX0_speak_58 rfl rfl ?_
      refine e_callV (pc := 59) (av := [.int x11, .int a1]) (S := []) (c0 := 0) rfl rfl ok_X0_giveAll ⟨Nat.le_of_ble_eq_true rfl, Nat.le_of_ble_eq_true rfl⟩ hv_X0_125 dX0_speak_59 (s_X0_giveAll a0 x11 a1 w10) rfl rfl (Nat.le_of_ble_eq_true rfl) (fun _ w12 => ?_)
      refine e_goto (pc := 62) (tgt := 87) dX0_speak_62 (by decide) ?_
      exact e_vret (pc := 87) dX0_speak_87 rfl
    · refine e_ite (fun h13 => ?_) (fun h13 => ?_)
      · refine e_tabIn (pc := 27) (v := 2) (j := 2) (tgt := 65) dX0_speak_27 h13 rfl (by decide) (by decide) rfl (by decide) ?_
        refine e_aload_n (pc := 65) dX0_speak_65 rfl rfl ?_
        refine e_aload_n (pc := 66) dX0_speak_66 rfl rfl ?_
        refine e_iload_n (pc := 67) dX0_speak_67 rfl rfl ?_
        refine e_callV (pc := 68) (av := [.int x6]) (S := [.ref a0]) (c0 := 0) rfl rfl ok_X0_strongOneOf ⟨Nat.le_of_ble_eq_true rfl, Nat.le_of_ble_eq_true rfl⟩ hv_X0_128 dX0_speak_68 (s_X0_strongOneOf a0 x6 w5) rfl rfl (Nat.le_of_ble_eq_true rfl) (fun x15 w14 => ?_)
        refine e_iload_n (pc := 71) dX0_speak_71 rfl rfl ?_
        refine e_callV (pc := 72) (av := [.int x15, .int a1]) (S := []) (c0 := 0) rfl rfl ok_X0_giveAll ⟨Nat.le_of_ble_eq_true rfl, Nat.le_of_ble_eq_true rfl⟩ hv_X0_125 dX0_speak_72 (s_X0_giveAll a0 x15 a1 w14) rfl rfl (Nat.le_of_ble_eq_true rfl) (fun _ w16 => ?_)
        refine e_goto (pc := 75) (tgt := 87) dX0_speak_75 (by decide) ?_
        exact e_vret (pc := 87) dX0_speak_87 rfl
      · refine e_ite (fun h17 => ?_) (fun h17 => ?_)
        · refine e_tabIn (pc := 27) (v := 3) (j := 3) (tgt := 78) dX0_speak_27 h17 rfl (by decide) (by decide) rfl (by decide) ?_
          refine e_aload_n (pc := 78) dX0_speak_78 rfl rfl ?_
          refine e_iload_n (pc := 79) dX0_speak_79 rfl rfl ?_
          refine e_iload_n (pc := 80) dX0_speak_80 rfl rfl ?_
          refine e_callV (pc := 81) (av := [.int x6, .int a1]) (S := []) (c0 := 0) rfl rfl ok_X0_giveAll ⟨Nat.le_of_ble_eq_true rfl, Nat.le_of_ble_eq_true rfl⟩ hv_X0_125 dX0_speak_81 (s_X0_giveAll a0 x6 a1 w5) rfl rfl (Nat.le_of_ble_eq_true rfl) (fun _ w18 => ?_)
          refine e_goto (pc := 84) (tgt := 87) dX0_speak_84 (by decide) ?_
          exact e_vret (pc := 87) dX0_speak_87 rfl
        · refine e_tabOut (pc := 27) (tgt := 87) dX0_speak_27 (by have z0 := lv_neT h9 (show (1 : Int32).toInt = 1 from rfl); have z1 := lv_neT h13 (show (2 : Int32).toInt = 2 from rfl); have z2 := lv_neT h17 (show (3 : Int32).toInt = 3 from rfl); omega) (by decide) ?_
          exact e_vret (pc := 87) dX0_speak_87 rfl
  · exact e_vret (pc := 9) dX0_speak_9 rfl
def M_X2_needOf : aM := (yX2_needOf, cX2_needOf, 7, (some .int), 0, 0)
theorem ok_X2_needOf : a_okM M_X2_needOf 2 := ⟨⟨by decide +kernel, by decide +kernel⟩, by decide +kernel, a_in 375 (by decide +kernel) rfl, a_in 82 (by decide +kernel) rfl⟩
theorem dX2_needOf_0 : decode M_X2_needOf.2.1 0 = .ok (.iconst 2, 1) := by decide +kernel
theorem dX2_needOf_1 : decode M_X2_needOf.2.1 1 = .ok (.istore_n 2, 1) := by decide +kernel
theorem dX2_needOf_2 : decode M_X2_needOf.2.1 2 = .ok (.iload_n 2, 1) := by decide +kernel
theorem dX2_needOf_3 : decode M_X2_needOf.2.1 3 = .ok (.iload_n 1, 1) := by decide +kernel
theorem dX2_needOf_4 : decode M_X2_needOf.2.1 4 = .ok (.iadd, 1) := by decide +kernel
theorem dX2_needOf_5 : decode M_X2_needOf.2.1 5 = .ok (.istore_n 3, 1) := by decide +kernel
theorem dX2_needOf_6 : decode M_X2_needOf.2.1 6 = .ok (.iload_n 3, 1) := by decide +kernel
theorem dX2_needOf_7 : decode M_X2_needOf.2.1 7 = .ok (.iconst 1, 1) := by decide +kernel
theorem dX2_needOf_8 : decode M_X2_needOf.2.1 8 = .ok (.isub, 1) := by decide +kernel
theorem dX2_needOf_9 : decode M_X2_needOf.2.1 9 = .ok (.istore 4, 2) := by decide +kernel
theorem dX2_needOf_11 : decode M_X2_needOf.2.1 11 = .ok (.iconst 3, 1) := by decide +kernel
theorem dX2_needOf_12 : decode M_X2_needOf.2.1 12 = .ok (.istore 5, 2) := by decide +kernel
theorem dX2_needOf_14 : decode M_X2_needOf.2.1 14 = .ok (.iconst 2, 1) := by decide +kernel
theorem dX2_needOf_15 : decode M_X2_needOf.2.1 15 = .ok (.iload 5, 2) := by decide +kernel
theorem dX2_needOf_17 : decode M_X2_needOf.2.1 17 = .ok (.imul, 1) := by decide +kernel
theorem dX2_needOf_18 : decode M_X2_needOf.2.1 18 = .ok (.istore 6, 2) := by decide +kernel
theorem dX2_needOf_20 : decode M_X2_needOf.2.1 20 = .ok (.iload_n 0, 1) := by decide +kernel
theorem dX2_needOf_21 : decode M_X2_needOf.2.1 21 = .ok (.tableswitch 66 1 7 #[43, 45, 47, 50, 53, 56, 61], 43) := by decide +kernel
theorem dX2_needOf_64 : decode M_X2_needOf.2.1 64 = .ok (.iconst 1, 1) := by decide +kernel
theorem dX2_needOf_65 : decode M_X2_needOf.2.1 65 = .ok (.ireturn, 1) := by decide +kernel
theorem dX2_needOf_66 : decode M_X2_needOf.2.1 66 = .ok (.iload_n 3, 1) := by decide +kernel
theorem dX2_needOf_67 : decode M_X2_needOf.2.1 67 = .ok (.ireturn, 1) := by decide +kernel
theorem dX2_needOf_68 : decode M_X2_needOf.2.1 68 = .ok (.iload 4, 2) := by decide +kernel
theorem dX2_needOf_70 : decode M_X2_needOf.2.1 70 = .ok (.ireturn, 1) := by decide +kernel
theorem dX2_needOf_71 : decode M_X2_needOf.2.1 71 = .ok (.iload 5, 2) := by decide +kernel
theorem dX2_needOf_73 : decode M_X2_needOf.2.1 73 = .ok (.ireturn, 1) := by decide +kernel
theorem dX2_needOf_74 : decode M_X2_needOf.2.1 74 = .ok (.iload 6, 2) := by decide +kernel
theorem dX2_needOf_76 : decode M_X2_needOf.2.1 76 = .ok (.ireturn, 1) := by decide +kernel
theorem dX2_needOf_77 : decode M_X2_needOf.2.1 77 = .ok (.iload 4, 2) := by decide +kernel
theorem dX2_needOf_79 : decode M_X2_needOf.2.1 79 = .ok (.iconst 2, 1) := by decide +kernel
theorem dX2_needOf_80 : decode M_X2_needOf.2.1 80 = .ok (.idiv, 1) := by decide +kernel
theorem dX2_needOf_81 : decode M_X2_needOf.2.1 81 = .ok (.ireturn, 1) := by decide +kernel
theorem dX2_needOf_82 : decode M_X2_needOf.2.1 82 = .ok (.iload 6, 2) := by decide +kernel
theorem dX2_needOf_84 : decode M_X2_needOf.2.1 84 = .ok (.iconst 1, 1) := by decide +kernel
theorem dX2_needOf_85 : decode M_X2_needOf.2.1 85 = .ok (.iadd, 1) := by decide +kernel
theorem dX2_needOf_86 : decode M_X2_needOf.2.1 86 = .ok (.ireturn, 1) := by decide +kernel
theorem dX2_needOf_87 : decode M_X2_needOf.2.1 87 = .ok (.iload_n 2, 1) := by decide +kernel
theorem dX2_needOf_88 : decode M_X2_needOf.2.1 88 = .ok (.ireturn, 1) := by decide +kernel
def f_X2_needOf (a0 : Int32) (a1 : Int32) (w : aW) : Option (Int32 × aW) :=
  if a0 = (1 : Int32) then
    some ((1 : Int32), w)
  else
    if a0 = (2 : Int32) then
      some (((2 : Int32) + a1), w)
    else
      if a0 = (3 : Int32) then
        some ((((2 : Int32) + a1) - (1 : Int32)), w)
      else
        if a0 = (4 : Int32) then
          some ((3 : Int32), w)
        else
          if a0 = (5 : Int32) then
            some (((2 : Int32) * (3 : Int32)), w)
          else
            if a0 = (6 : Int32) then
              some (((((2 : Int32) + a1) - (1 : Int32)) / (2 : Int32)), w)
            else
              if a0 = (7 : Int32) then
                some ((((2 : Int32) * (3 : Int32)) + (1 : Int32)), w)
              else
                some ((2 : Int32), w)
theorem s_X2_needOf (a0 : Int32) (a1 : Int32) (w : aW) : Sp rvI M_X2_needOf [.int a0, .int a1] w (f_X2_needOf a0 a1 w) := by
  refine e_entry [some (.int a0), some (.int a1), none, none, none, none, none] (by decide +kernel) (Nat.le_of_ble_eq_true rfl) (fun _ => rfl) ?_
  unfold f_X2_needOf
  refine e_iconst (pc := 0) dX2_needOf_0 kc_2 ?_
  refine e_istore_n (L' := [some (.int a0), some (.int a1), some (.int (2 : Int32)), none, none, none, none]) (pc := 1) dX2_needOf_1 rfl (by decide) rfl ?_
  refine e_iload_n (pc := 2) dX2_needOf_2 rfl rfl ?_
  refine e_iload_n (pc := 3) dX2_needOf_3 rfl rfl ?_
  refine e_iadd (pc := 4) dX2_needOf_4 ?_
  refine e_istore_n (L' := [some (.int a0), some (.int a1), some (.int (2 : Int32)), some (.int ((2 : Int32) + a1)), none, none, none]) (pc := 5) dX2_needOf_5 rfl (by decide) rfl ?_
  refine e_iload_n (pc := 6) dX2_needOf_6 rfl rfl ?_
  refine e_iconst (pc := 7) dX2_needOf_7 kc_1 ?_
  refine e_isub (pc := 8) dX2_needOf_8 ?_
  refine e_istore (L' := [some (.int a0), some (.int a1), some (.int (2 : Int32)), some (.int ((2 : Int32) + a1)), some (.int (((2 : Int32) + a1) - (1 : Int32))), none, none]) (pc := 9) dX2_needOf_9 (by decide) rfl ?_
  refine e_iconst (pc := 11) dX2_needOf_11 kc_3 ?_
  refine e_istore (L' := [some (.int a0), some (.int a1), some (.int (2 : Int32)), some (.int ((2 : Int32) + a1)), some (.int (((2 : Int32) + a1) - (1 : Int32))), some (.int (3 : Int32)), none]) (pc := 12) dX2_needOf_12 (by decide) rfl ?_
  refine e_iconst (pc := 14) dX2_needOf_14 kc_2 ?_
  refine e_iload (pc := 15) dX2_needOf_15 rfl ?_
  refine e_imul (pc := 17) dX2_needOf_17 ?_
  refine e_istore (L' := [some (.int a0), some (.int a1), some (.int (2 : Int32)), some (.int ((2 : Int32) + a1)), some (.int (((2 : Int32) + a1) - (1 : Int32))), some (.int (3 : Int32)), some (.int ((2 : Int32) * (3 : Int32)))]) (pc := 18) dX2_needOf_18 (by decide) rfl ?_
  refine e_iload_n (pc := 20) dX2_needOf_20 rfl rfl ?_
  refine e_ite (fun h1 => ?_) (fun h1 => ?_)
  · refine e_tabIn (pc := 21) (v := 1) (j := 1) (tgt := 64) dX2_needOf_21 h1 rfl (by decide) (by decide) rfl (by decide) ?_
    refine e_iconst (pc := 64) dX2_needOf_64 kc_1 ?_
    exact e_iret (pc := 65) dX2_needOf_65 rfl rfl
  · refine e_ite (fun h2 => ?_) (fun h2 => ?_)
    · refine e_tabIn (pc := 21) (v := 2) (j := 2) (tgt := 66) dX2_needOf_21 h2 rfl (by decide) (by decide) rfl (by decide) ?_
      refine e_iload_n (pc := 66) dX2_needOf_66 rfl rfl ?_
      exact e_iret (pc := 67) dX2_needOf_67 rfl rfl
    · refine e_ite (fun h3 => ?_) (fun h3 => ?_)
      · refine e_tabIn (pc := 21) (v := 3) (j := 3) (tgt := 68) dX2_needOf_21 h3 rfl (by decide) (by decide) rfl (by decide) ?_
        refine e_iload (pc := 68) dX2_needOf_68 rfl ?_
        exact e_iret (pc := 70) dX2_needOf_70 rfl rfl
      · refine e_ite (fun h4 => ?_) (fun h4 => ?_)
        · refine e_tabIn (pc := 21) (v := 4) (j := 4) (tgt := 71) dX2_needOf_21 h4 rfl (by decide) (by decide) rfl (by decide) ?_
          refine e_iload (pc := 71) dX2_needOf_71 rfl ?_
          exact e_iret (pc := 73) dX2_needOf_73 rfl rfl
        · refine e_ite (fun h5 => ?_) (fun h5 => ?_)
          · refine e_tabIn (pc := 21) (v := 5) (j := 5) (tgt := 74) dX2_needOf_21 h5 rfl (by decide) (by decide) rfl (by decide) ?_
            refine e_iload (pc := 74) dX2_needOf_74 rfl ?_
            exact e_iret (pc := 76) dX2_needOf_76 rfl rfl
          · refine e_ite (fun h6 => ?_) (fun h6 => ?_)
            · refine e_tabIn (pc := 21) (v := 6) (j := 6) (tgt := 77) dX2_needOf_21 h6 rfl (by decide) (by decide) rfl (by decide) ?_
              refine e_iload (pc := 77) dX2_needOf_77 rfl ?_
              refine e_iconst (pc := 79) dX2_needOf_79 kc_2 ?_
              refine e_idiv (pc := 80) dX2_needOf_80 (by decide) ?_
              exact e_iret (pc := 81) dX2_needOf_81 rfl rfl
            · refine e_ite (fun h7 => ?_) (fun h7 => ?_)
              · refine e_tabIn (pc := 21) (v := 7) (j := 7) (tgt := 82) dX2_needOf_21 h7 rfl (by decide) (by decide) rfl (by decide) ?_
                refine e_iload (pc := 82) dX2_needOf_82 rfl ?_
                refine e_iconst (pc := 84) dX2_needOf_84 kc_1 ?_
                refine e_iadd (pc := 85) dX2_needOf_85 ?_
                exact e_iret (pc := 86) dX2_needOf_86 rfl rfl
              · refine e_tabOut (pc := 21) (tgt := 87) dX2_needOf_21 (by have z0 := lv_neT h1 (show (1 : Int32).toInt = 1 from rfl); have z1 := lv_neT h2 (show (2 : Int32).toInt = 2 from rfl); have z2 := lv_neT h3 (show (3 : Int32).toInt = 3 from rfl); have z3 := lv_neT h4 (show (4 : Int32).toInt = 4 from rfl); have z4 := lv_neT h5 (show (5 : Int32).toInt = 5 from rfl); have z5 := lv_neT h6 (show (6 : Int32).toInt = 6 from rfl); have z6 := lv_neT h7 (show (7 : Int32).toInt = 7 from rfl); omega) (by decide) ?_
                refine e_iload_n (pc := 87) dX2_needOf_87 rfl rfl ?_
                exact e_iret (pc := 88) dX2_needOf_88 rfl rfl
def M_X0_starve : aM := (yX0_starve, cX0_starve, 3, none, 1, 21)
theorem ok_X0_starve : a_okM M_X0_starve 2 := ⟨⟨by decide +kernel, by decide +kernel⟩, by decide +kernel, a_in 379 (by decide +kernel) rfl, a_in 77 (by decide +kernel) rfl⟩
theorem dX0_starve_0 : decode M_X0_starve.2.1 0 = .ok (.aload_n 0, 1) := by decide +kernel
theorem dX0_starve_1 : decode M_X0_starve.2.1 1 = .ok (.getfield 34, 3) := by decide +kernel
theorem dX0_starve_4 : decode M_X0_starve.2.1 4 = .ok (.iload_n 1, 1) := by decide +kernel
theorem dX0_starve_5 : decode M_X0_starve.2.1 5 = .ok (.bipush 9, 2) := by decide +kernel
theorem dX0_starve_7 : decode M_X0_starve.2.1 7 = .ok (.aload_n 0, 1) := by decide +kernel
theorem dX0_starve_8 : decode M_X0_starve.2.1 8 = .ok (.getfield 34, 3) := by decide +kernel
theorem dX0_starve_11 : decode M_X0_starve.2.1 11 = .ok (.iload_n 1, 1) := by decide +kernel
theorem dX0_starve_12 : decode M_X0_starve.2.1 12 = .ok (.iaload, 1) := by decide +kernel
theorem dX0_starve_13 : decode M_X0_starve.2.1 13 = .ok (.iconst 2, 1) := by decide +kernel
theorem dX0_starve_14 : decode M_X0_starve.2.1 14 = .ok (.iadd, 1) := by decide +kernel
theorem dX0_starve_15 : decode M_X0_starve.2.1 15 = .ok (.invokestatic 136, 3) := by decide +kernel
theorem dX0_starve_18 : decode M_X0_starve.2.1 18 = .ok (.iastore, 1) := by decide +kernel
theorem dX0_starve_19 : decode M_X0_starve.2.1 19 = .ok (.aload_n 0, 1) := by decide +kernel
theorem dX0_starve_20 : decode M_X0_starve.2.1 20 = .ok (.getfield 34, 3) := by decide +kernel
theorem dX0_starve_23 : decode M_X0_starve.2.1 23 = .ok (.iload_n 1, 1) := by decide +kernel
theorem dX0_starve_24 : decode M_X0_starve.2.1 24 = .ok (.iaload, 1) := by decide +kernel
theorem dX0_starve_25 : decode M_X0_starve.2.1 25 = .ok (.bipush 9, 2) := by decide +kernel
theorem dX0_starve_27 : decode M_X0_starve.2.1 27 = .ok (.if_icmp .ne 44, 3) := by decide +kernel
theorem dX0_starve_30 : decode M_X0_starve.2.1 30 = .ok (.aload_n 0, 1) := by decide +kernel
theorem dX0_starve_31 : decode M_X0_starve.2.1 31 = .ok (.dup, 1) := by decide +kernel
theorem dX0_starve_32 : decode M_X0_starve.2.1 32 = .ok (.getfield 18, 3) := by decide +kernel
theorem dX0_starve_35 : decode M_X0_starve.2.1 35 = .ok (.iconst 1, 1) := by decide +kernel
theorem dX0_starve_36 : decode M_X0_starve.2.1 36 = .ok (.iload_n 1, 1) := by decide +kernel
theorem dX0_starve_37 : decode M_X0_starve.2.1 37 = .ok (.ishl, 1) := by decide +kernel
theorem dX0_starve_38 : decode M_X0_starve.2.1 38 = .ok (.iconst (-1), 1) := by decide +kernel
theorem dX0_starve_39 : decode M_X0_starve.2.1 39 = .ok (.ixor, 1) := by decide +kernel
theorem dX0_starve_40 : decode M_X0_starve.2.1 40 = .ok (.iand, 1) := by decide +kernel
theorem dX0_starve_41 : decode M_X0_starve.2.1 41 = .ok (.putfield 18, 3) := by decide +kernel
theorem dX0_starve_44 : decode M_X0_starve.2.1 44 = .ok (.aload_n 0, 1) := by decide +kernel
theorem dX0_starve_45 : decode M_X0_starve.2.1 45 = .ok (.getfield 37, 3) := by decide +kernel
theorem dX0_starve_48 : decode M_X0_starve.2.1 48 = .ok (.iload_n 1, 1) := by decide +kernel
theorem dX0_starve_49 : decode M_X0_starve.2.1 49 = .ok (.bipush (-4), 2) := by decide +kernel
theorem dX0_starve_51 : decode M_X0_starve.2.1 51 = .ok (.iastore, 1) := by decide +kernel
theorem dX0_starve_52 : decode M_X0_starve.2.1 52 = .ok (.aload_n 0, 1) := by decide +kernel
theorem dX0_starve_53 : decode M_X0_starve.2.1 53 = .ok (.getfield 49, 3) := by decide +kernel
theorem dX0_starve_56 : decode M_X0_starve.2.1 56 = .ok (.iload_n 2, 1) := by decide +kernel
theorem dX0_starve_57 : decode M_X0_starve.2.1 57 = .ok (.bipush 99, 2) := by decide +kernel
theorem dX0_starve_59 : decode M_X0_starve.2.1 59 = .ok (.aload_n 0, 1) := by decide +kernel
theorem dX0_starve_60 : decode M_X0_starve.2.1 60 = .ok (.getfield 49, 3) := by decide +kernel
theorem dX0_starve_63 : decode M_X0_starve.2.1 63 = .ok (.iload_n 2, 1) := by decide +kernel
theorem dX0_starve_64 : decode M_X0_starve.2.1 64 = .ok (.iaload, 1) := by decide +kernel
theorem dX0_starve_65 : decode M_X0_starve.2.1 65 = .ok (.iconst 1, 1) := by decide +kernel
theorem dX0_starve_66 : decode M_X0_starve.2.1 66 = .ok (.iadd, 1) := by decide +kernel
theorem dX0_starve_67 : decode M_X0_starve.2.1 67 = .ok (.invokestatic 136, 3) := by decide +kernel
theorem dX0_starve_70 : decode M_X0_starve.2.1 70 = .ok (.iastore, 1) := by decide +kernel
theorem dX0_starve_71 : decode M_X0_starve.2.1 71 = .ok (.return_, 1) := by decide +kernel
theorem hm_X0_136 : Cond.methodLink RX0 136 Lib.Math.min.name ∈ a_T ∧ Cond.static Lib.Math.min.name ∈ a_T ∧ Cond.initialized "java/lang/Math" ∈ a_T ∧ Cond.code Lib.Math.min.name Lib.Math.min.code 2 (some .int) ∈ a_T := ⟨a_in 370 (by decide +kernel) rfl, a_in 371 (by decide +kernel) rfl, a_in 81 (by decide +kernel) rfl, a_in 372 (by decide +kernel) rfl⟩
def f_X0_starve (a0 : Nat) (a1 : Int32) (a2 : Int32) (w : aW) : Option (Unit × aW) :=
  (gR 0 w a0 7).bind fun r1 =>
  (gR 0 w a0 7).bind fun r2 =>
  (gA w r2 a1).bind fun x3 =>
  (sA w r1 a1 (if (x3 + (2 : Int32)) < (9 : Int32) then (x3 + (2 : Int32)) else (9 : Int32))).bind fun w4 =>
  (gR 0 w4 a0 7).bind fun r5 =>
  (gA w4 r5 a1).bind fun x6 =>
  if ¬ x6 = (9 : Int32) then
    some ((), w4)
  else
    (gI 0 w4 a0 2).bind fun x7 =>
    (sF 0 w4 a0 2 (.int (x7 &&& (((1 : Int32) <<< (a1 &&& 31)) ^^^ (-1 : Int32))))).bind fun w8 =>
    (gR 0 w8 a0 8).bind fun r9 =>
    (sA w8 r9 a1 (-4 : Int32)).bind fun w10 =>
    (gR 0 w10 a0 12).bind fun r11 =>
    (gR 0 w10 a0 12).bind fun r12 =>
    (gA w10 r12 a2).bind fun x13 =>
    (sA w10 r11 a2 (if (x13 + (1 : Int32)) < (99 : Int32) then (x13 + (1 : Int32)) else (99 : Int32))).bind fun w14 =>
    some ((), w14)
theorem s_X0_starve (a0 : Nat) (a1 : Int32) (a2 : Int32) (w : aW) : Sp rvV M_X0_starve [.ref a0, .int a1, .int a2] w (f_X0_starve a0 a1 a2 w) := by
  refine e_entry [some (.ref a0), some (.int a1), some (.int a2)] (by decide +kernel) (Nat.le_of_ble_eq_true rfl) (fun _ => rfl) ?_
  unfold f_X0_starve
  refine e_aload_n (pc := 0) dX0_starve_0 rfl rfl ?_
  refine e_getR (pc := 1) dX0_starve_1 hs_X0_34 (fun r1 => ?_)
  refine e_iload_n (pc := 4) dX0_starve_4 rfl rfl ?_
  refine e_bipush (pc := 5) dX0_starve_5 kb_9 ?_
  refine e_aload_n (pc := 7) dX0_starve_7 rfl rfl ?_
  refine e_getR (pc := 8) dX0_starve_8 hs_X0_34 (fun r2 => ?_)
  refine e_iload_n (pc := 11) dX0_starve_11 rfl rfl ?_
  refine e_iald (pc := 12) dX0_starve_12 (fun x3 => ?_)
  refine e_iconst (pc := 13) dX0_starve_13 kc_2 ?_
  refine e_iadd (pc := 14) dX0_starve_14 ?_
  refine e_mmin (pc := 15) (Nat.le_of_ble_eq_true rfl) (Nat.le_of_ble_eq_true rfl) hm_X0_136 dX0_starve_15 ?_
  refine e_iast (pc := 18) dX0_starve_18 (fun w4 => ?_)
  refine e_aload_n (pc := 19) dX0_starve_19 rfl rfl ?_
  refine e_getR (pc := 20) dX0_starve_20 hs_X0_34 (fun r5 => ?_)
  refine e_iload_n (pc := 23) dX0_starve_23 rfl rfl ?_
  refine e_iald (pc := 24) dX0_starve_24 (fun x6 => ?_)
  refine e_bipush (pc := 25) dX0_starve_25 kb_9 ?_
  refine e_icmp_ne (pc := 27) (tgt := 71) dX0_starve_27 (by decide) (fun _ => ?_) (fun _ => ?_)
  · exact e_vret (pc := 71) dX0_starve_71 rfl
  · refine e_aload_n (pc := 30) dX0_starve_30 rfl rfl ?_
    refine e_dup (pc := 31) dX0_starve_31 rfl ?_
    refine e_getI (pc := 32) dX0_starve_32 hs_X0_18 (fun x7 => ?_)
    refine e_iconst (pc := 35) dX0_starve_35 kc_1 ?_
    refine e_iload_n (pc := 36) dX0_starve_36 rfl rfl ?_
    refine e_ishl (pc := 37) dX0_starve_37 ?_
    refine e_iconst (pc := 38) dX0_starve_38 kc_m1 ?_
    refine e_ixor (pc := 39) dX0_starve_39 ?_
    refine e_iand (pc := 40) dX0_starve_40 ?_
    refine e_put (pc := 41) dX0_starve_41 hw_X0_18 (fun _ => rfl) (fun _ => rfl) (fun w8 => ?_)
    refine e_aload_n (pc := 44) dX0_starve_44 rfl rfl ?_
    refine e_getR (pc := 45) dX0_starve_45 hs_X0_37 (fun r9 => ?_)
    refine e_iload_n (pc := 48) dX0_starve_48 rfl rfl ?_
    refine e_bipush (pc := 49) dX0_starve_49 kb_m4 ?_
    refine e_iast (pc := 51) dX0_starve_51 (fun w10 => ?_)
    refine e_aload_n (pc := 52) dX0_starve_52 rfl rfl ?_
    refine e_getR (pc := 53) dX0_starve_53 hs_X0_49 (fun r11 => ?_)
    refine e_iload_n (pc := 56) dX0_starve_56 rfl rfl ?_
    refine e_bipush (pc := 57) dX0_starve_57 kb_99 ?_
    refine e_aload_n (pc := 59) dX0_starve_59 rfl rfl ?_
    refine e_getR (pc := 60) dX0_starve_60 hs_X0_49 (fun r12 => ?_)
    refine e_iload_n (pc := 63) dX0_starve_63 rfl rfl ?_
    refine e_iald (pc := 64) dX0_starve_64 (fun x13 => ?_)
    refine e_iconst (pc := 65) dX0_starve_65 kc_1 ?_
    refine e_iadd (pc := 66) dX0_starve_66 ?_
    refine e_mmin (pc := 67) (Nat.le_of_ble_eq_true rfl) (Nat.le_of_ble_eq_true rfl) hm_X0_136 dX0_starve_67 ?_
    refine e_iast (pc := 70) dX0_starve_70 (fun w14 => ?_)
    exact e_vret (pc := 71) dX0_starve_71 rfl
def M_X0_feed : aM := (yX0_feed, cX0_feed, 5, none, 2, 43)
theorem ok_X0_feed : a_okM M_X0_feed 2 := ⟨⟨by decide +kernel, by decide +kernel⟩, by decide +kernel, a_in 369 (by decide +kernel) rfl, a_in 77 (by decide +kernel) rfl⟩
theorem dX0_feed_0 : decode M_X0_feed.2.1 0 = .ok (.aload_n 0, 1) := by decide +kernel
theorem dX0_feed_1 : decode M_X0_feed.2.1 1 = .ok (.getfield 37, 3) := by decide +kernel
theorem dX0_feed_4 : decode M_X0_feed.2.1 4 = .ok (.iload_n 1, 1) := by decide +kernel
theorem dX0_feed_5 : decode M_X0_feed.2.1 5 = .ok (.iaload, 1) := by decide +kernel
theorem dX0_feed_6 : decode M_X0_feed.2.1 6 = .ok (.istore_n 3, 1) := by decide +kernel
theorem dX0_feed_7 : decode M_X0_feed.2.1 7 = .ok (.iload_n 3, 1) := by decide +kernel
theorem dX0_feed_8 : decode M_X0_feed.2.1 8 = .ok (.invokestatic 78, 3) := by decide +kernel
theorem dX0_feed_11 : decode M_X0_feed.2.1 11 = .ok (.ifCond .ne 23, 3) := by decide +kernel
theorem dX0_feed_14 : decode M_X0_feed.2.1 14 = .ok (.aload_n 0, 1) := by decide +kernel
theorem dX0_feed_15 : decode M_X0_feed.2.1 15 = .ok (.getfield 34, 3) := by decide +kernel
theorem dX0_feed_18 : decode M_X0_feed.2.1 18 = .ok (.iload_n 1, 1) := by decide +kernel
theorem dX0_feed_19 : decode M_X0_feed.2.1 19 = .ok (.bipush 9, 2) := by decide +kernel
theorem dX0_feed_21 : decode M_X0_feed.2.1 21 = .ok (.aload_n 0, 1) := by decide +kernel
theorem dX0_feed_22 : decode M_X0_feed.2.1 22 = .ok (.getfield 34, 3) := by decide +kernel
theorem dX0_feed_25 : decode M_X0_feed.2.1 25 = .ok (.iload_n 1, 1) := by decide +kernel
theorem dX0_feed_26 : decode M_X0_feed.2.1 26 = .ok (.iaload, 1) := by decide +kernel
theorem dX0_feed_27 : decode M_X0_feed.2.1 27 = .ok (.iconst 1, 1) := by decide +kernel
theorem dX0_feed_28 : decode M_X0_feed.2.1 28 = .ok (.iadd, 1) := by decide +kernel
theorem dX0_feed_29 : decode M_X0_feed.2.1 29 = .ok (.invokestatic 136, 3) := by decide +kernel
theorem dX0_feed_32 : decode M_X0_feed.2.1 32 = .ok (.iastore, 1) := by decide +kernel
theorem dX0_feed_33 : decode M_X0_feed.2.1 33 = .ok (.return_, 1) := by decide +kernel
theorem dX0_feed_34 : decode M_X0_feed.2.1 34 = .ok (.aload_n 0, 1) := by decide +kernel
theorem dX0_feed_35 : decode M_X0_feed.2.1 35 = .ok (.getfield 24, 3) := by decide +kernel
theorem dX0_feed_38 : decode M_X0_feed.2.1 38 = .ok (.iload_n 1, 1) := by decide +kernel
theorem dX0_feed_39 : decode M_X0_feed.2.1 39 = .ok (.iaload, 1) := by decide +kernel
theorem dX0_feed_40 : decode M_X0_feed.2.1 40 = .ok (.aload_n 0, 1) := by decide +kernel
theorem dX0_feed_41 : decode M_X0_feed.2.1 41 = .ok (.getfield 28, 3) := by decide +kernel
theorem dX0_feed_44 : decode M_X0_feed.2.1 44 = .ok (.iload_n 1, 1) := by decide +kernel
theorem dX0_feed_45 : decode M_X0_feed.2.1 45 = .ok (.iaload, 1) := by decide +kernel
theorem dX0_feed_46 : decode M_X0_feed.2.1 46 = .ok (.invokestatic 141, 3) := by decide +kernel
theorem dX0_feed_49 : decode M_X0_feed.2.1 49 = .ok (.iload_n 2, 1) := by decide +kernel
theorem dX0_feed_50 : decode M_X0_feed.2.1 50 = .ok (.iadd, 1) := by decide +kernel
theorem dX0_feed_51 : decode M_X0_feed.2.1 51 = .ok (.istore 4, 2) := by decide +kernel
theorem dX0_feed_53 : decode M_X0_feed.2.1 53 = .ok (.aload_n 0, 1) := by decide +kernel
theorem dX0_feed_54 : decode M_X0_feed.2.1 54 = .ok (.getfield 40, 3) := by decide +kernel
theorem dX0_feed_57 : decode M_X0_feed.2.1 57 = .ok (.iload_n 3, 1) := by decide +kernel
theorem dX0_feed_58 : decode M_X0_feed.2.1 58 = .ok (.iaload, 1) := by decide +kernel
theorem dX0_feed_59 : decode M_X0_feed.2.1 59 = .ok (.iload 4, 2) := by decide +kernel
theorem dX0_feed_61 : decode M_X0_feed.2.1 61 = .ok (.if_icmp .lt 50, 3) := by decide +kernel
theorem dX0_feed_64 : decode M_X0_feed.2.1 64 = .ok (.aload_n 0, 1) := by decide +kernel
theorem dX0_feed_65 : decode M_X0_feed.2.1 65 = .ok (.getfield 40, 3) := by decide +kernel
theorem dX0_feed_68 : decode M_X0_feed.2.1 68 = .ok (.iload_n 3, 1) := by decide +kernel
theorem dX0_feed_69 : decode M_X0_feed.2.1 69 = .ok (.sipush 999, 3) := by decide +kernel
theorem dX0_feed_72 : decode M_X0_feed.2.1 72 = .ok (.aload_n 0, 1) := by decide +kernel
theorem dX0_feed_73 : decode M_X0_feed.2.1 73 = .ok (.getfield 40, 3) := by decide +kernel
theorem dX0_feed_76 : decode M_X0_feed.2.1 76 = .ok (.iload_n 3, 1) := by decide +kernel
theorem dX0_feed_77 : decode M_X0_feed.2.1 77 = .ok (.iaload, 1) := by decide +kernel
theorem dX0_feed_78 : decode M_X0_feed.2.1 78 = .ok (.iload 4, 2) := by decide +kernel
theorem dX0_feed_80 : decode M_X0_feed.2.1 80 = .ok (.isub, 1) := by decide +kernel
theorem dX0_feed_81 : decode M_X0_feed.2.1 81 = .ok (.aload_n 0, 1) := by decide +kernel
theorem dX0_feed_82 : decode M_X0_feed.2.1 82 = .ok (.getfield 24, 3) := by decide +kernel
theorem dX0_feed_85 : decode M_X0_feed.2.1 85 = .ok (.iload_n 1, 1) := by decide +kernel
theorem dX0_feed_86 : decode M_X0_feed.2.1 86 = .ok (.iaload, 1) := by decide +kernel
theorem dX0_feed_87 : decode M_X0_feed.2.1 87 = .ok (.aload_n 0, 1) := by decide +kernel
theorem dX0_feed_88 : decode M_X0_feed.2.1 88 = .ok (.getfield 28, 3) := by decide +kernel
theorem dX0_feed_91 : decode M_X0_feed.2.1 91 = .ok (.iload_n 1, 1) := by decide +kernel
theorem dX0_feed_92 : decode M_X0_feed.2.1 92 = .ok (.iaload, 1) := by decide +kernel
theorem dX0_feed_93 : decode M_X0_feed.2.1 93 = .ok (.invokestatic 131, 3) := by decide +kernel
theorem dX0_feed_96 : decode M_X0_feed.2.1 96 = .ok (.iadd, 1) := by decide +kernel
theorem dX0_feed_97 : decode M_X0_feed.2.1 97 = .ok (.invokestatic 136, 3) := by decide +kernel
theorem dX0_feed_100 : decode M_X0_feed.2.1 100 = .ok (.iastore, 1) := by decide +kernel
theorem dX0_feed_101 : decode M_X0_feed.2.1 101 = .ok (.aload_n 0, 1) := by decide +kernel
theorem dX0_feed_102 : decode M_X0_feed.2.1 102 = .ok (.getfield 34, 3) := by decide +kernel
theorem dX0_feed_105 : decode M_X0_feed.2.1 105 = .ok (.iload_n 1, 1) := by decide +kernel
theorem dX0_feed_106 : decode M_X0_feed.2.1 106 = .ok (.iconst 0, 1) := by decide +kernel
theorem dX0_feed_107 : decode M_X0_feed.2.1 107 = .ok (.iastore, 1) := by decide +kernel
theorem dX0_feed_108 : decode M_X0_feed.2.1 108 = .ok (.goto 9, 3) := by decide +kernel
theorem dX0_feed_111 : decode M_X0_feed.2.1 111 = .ok (.aload_n 0, 1) := by decide +kernel
theorem dX0_feed_112 : decode M_X0_feed.2.1 112 = .ok (.iload_n 1, 1) := by decide +kernel
theorem dX0_feed_113 : decode M_X0_feed.2.1 113 = .ok (.iload_n 3, 1) := by decide +kernel
theorem dX0_feed_114 : decode M_X0_feed.2.1 114 = .ok (.invokevirtual 144, 3) := by decide +kernel
theorem dX0_feed_117 : decode M_X0_feed.2.1 117 = .ok (.return_, 1) := by decide +kernel
theorem ht_X0_141 : a_okS RX0 M_X2_needOf 141 := ⟨a_in 373 (by decide +kernel) rfl, a_in 374 (by decide +kernel) rfl⟩
theorem hv_X0_144 : a_okV RX0 M_X0_starve 144 := ⟨a_in 376 (by decide +kernel) rfl, a_in 378 (by decide +kernel) rfl, a_in 9 (by decide +kernel) rfl⟩
def f_X0_feed (a0 : Nat) (a1 : Int32) (a2 : Int32) (w : aW) : Option (Unit × aW) :=
  (gR 0 w a0 8).bind fun r1 =>
  (gA w r1 a1).bind fun x2 =>
  bk (f_X3_isPerson x2 w) fun x4 w3 =>
  if ¬ x4 = (0 : Int32) then
    (gR 0 w3 a0 4).bind fun r5 =>
    (gA w3 r5 a1).bind fun x6 =>
    (gR 0 w3 a0 5).bind fun r7 =>
    (gA w3 r7 a1).bind fun x8 =>
    bk (f_X2_needOf x6 x8 w3) fun x10 w9 =>
    (gR 0 w9 a0 9).bind fun r11 =>
    (gA w9 r11 x2).bind fun x12 =>
    if x12 < (x10 + a2) then
      cV 0 w9 a0 (bk (f_X0_starve a0 a1 x2 w9) fun _ w13 =>
      some ((), w13))
    else
      (gR 0 w9 a0 9).bind fun r14 =>
      (gR 0 w9 a0 9).bind fun r15 =>
      (gA w9 r15 x2).bind fun x16 =>
      (gR 0 w9 a0 4).bind fun r17 =>
      (gA w9 r17 a1).bind fun x18 =>
      (gR 0 w9 a0 5).bind fun r19 =>
      (gA w9 r19 a1).bind fun x20 =>
      bk (f_X2_workOf x18 x20 w9) fun x22 w21 =>
      (sA w21 r14 x2 (if ((x16 - (x10 + a2)) + x22) < (999 : Int32) then ((x16 - (x10 + a2)) + x22) else (999 : Int32))).bind fun w23 =>
      (gR 0 w23 a0 7).bind fun r24 =>
      (sA w23 r24 a1 (0 : Int32)).bind fun w25 =>
      some ((), w25)
  else
    (gR 0 w3 a0 7).bind fun r26 =>
    (gR 0 w3 a0 7).bind fun r27 =>
    (gA w3 r27 a1).bind fun x28 =>
    (sA w3 r26 a1 (if (x28 + (1 : Int32)) < (9 : Int32) then (x28 + (1 : Int32)) else (9 : Int32))).bind fun w29 =>
    some ((), w29)
theorem s_X0_feed (a0 : Nat) (a1 : Int32) (a2 : Int32) (w : aW) : Sp rvV M_X0_feed [.ref a0, .int a1, .int a2] w (f_X0_feed a0 a1 a2 w) := by
  refine e_entry [some (.ref a0), some (.int a1), some (.int a2), none, none] (by decide +kernel) (Nat.le_of_ble_eq_true rfl) (fun _ => rfl) ?_
  unfold f_X0_feed
  refine e_aload_n (pc := 0) dX0_feed_0 rfl rfl ?_
  refine e_getR (pc := 1) dX0_feed_1 hs_X0_37 (fun r1 => ?_)
  refine e_iload_n (pc := 4) dX0_feed_4 rfl rfl ?_
  refine e_iald (pc := 5) dX0_feed_5 (fun x2 => ?_)
  refine e_istore_n (L' := [some (.ref a0), some (.int a1), some (.int a2), some (.int x2), none]) (pc := 6) dX0_feed_6 rfl (by decide) rfl ?_
  refine e_iload_n (pc := 7) dX0_feed_7 rfl rfl ?_
  refine e_callN (pc := 8) (av := [.int x2]) (S := []) ok_X3_isPerson ⟨Nat.le_of_ble_eq_true rfl, Nat.le_of_ble_eq_true rfl⟩ hn_X0_78 dX0_feed_8 (s_X3_isPerson x2 w) rfl rfl (Nat.le_of_ble_eq_true rfl) (fun x4 w3 => ?_)
  refine e_if_ne (pc := 11) (tgt := 34) dX0_feed_11 (by decide) (fun _ => ?_) (fun _ => ?_)
  · refine e_aload_n (pc := 34) dX0_feed_34 rfl rfl ?_
    refine e_getR (pc := 35) dX0_feed_35 hs_X0_24 (fun r5 => ?_)
    refine e_iload_n (pc := 38) dX0_feed_38 rfl rfl ?_
    refine e_iald (pc := 39) dX0_feed_39 (fun x6 => ?_)
    refine e_aload_n (pc := 40) dX0_feed_40 rfl rfl ?_
    refine e_getR (pc := 41) dX0_feed_41 hs_X0_28 (fun r7 => ?_)
    refine e_iload_n (pc := 44) dX0_feed_44 rfl rfl ?_
    refine e_iald (pc := 45) dX0_feed_45 (fun x8 => ?_)
    refine e_callS (pc := 46) (av := [.int x6, .int x8]) (S := []) ok_X2_needOf ⟨Nat.le_of_ble_eq_true rfl, Nat.le_of_ble_eq_true rfl⟩ ht_X0_141 dX0_feed_46 (s_X2_needOf x6 x8 w3) rfl rfl (Nat.le_of_ble_eq_true rfl) (fun x10 w9 => ?_)
    refine e_iload_n (pc := 49) dX0_feed_49 rfl rfl ?_
    refine e_iadd (pc := 50) dX0_feed_50 ?_
    refine e_istore (L' := [some (.ref a0), some (.int a1), some (.int a2), some (.int x2), some (.int (x10 + a2))]) (pc := 51) dX0_feed_51 (by decide) rfl ?_
    refine e_aload_n (pc := 53) dX0_feed_53 rfl rfl ?_
    refine e_getR (pc := 54) dX0_feed_54 hs_X0_40 (fun r11 => ?_)
    refine e_iload_n (pc := 57) dX0_feed_57 rfl rfl ?_
    refine e_iald (pc := 58) dX0_feed_58 (fun x12 => ?_)
    refine e_iload (pc := 59) dX0_feed_59 rfl ?_
    refine e_icmp_lt (pc := 61) (tgt := 111) dX0_feed_61 (by decide) (fun _ => ?_) (fun _ => ?_)
    · refine e_aload_n (pc := 111) dX0_feed_111 rfl rfl ?_
      refine e_iload_n (pc := 112) dX0_feed_112 rfl rfl ?_
      refine e_iload_n (pc := 113) dX0_feed_113 rfl rfl ?_
      refine e_callV (pc := 114) (av := [.int a1, .int x2]) (S := []) (c0 := 0) rfl rfl ok_X0_starve ⟨Nat.le_of_ble_eq_true rfl, Nat.le_of_ble_eq_true rfl⟩ hv_X0_144 dX0_feed_114 (s_X0_starve a0 a1 x2 w9) rfl rfl (Nat.le_of_ble_eq_true rfl) (fun _ w13 => ?_)
      exact e_vret (pc := 117) dX0_feed_117 rfl
    · refine e_aload_n (pc := 64) dX0_feed_64 rfl rfl ?_
      refine e_getR (pc := 65) dX0_feed_65 hs_X0_40 (fun r14 => ?_)
      refine e_iload_n (pc := 68) dX0_feed_68 rfl rfl ?_
      refine e_sipush (pc := 69) dX0_feed_69 ks_999 ?_
      refine e_aload_n (pc := 72) dX0_feed_72 rfl rfl ?_
      refine e_getR (pc := 73) dX0_feed_73 hs_X0_40 (fun r15 => ?_)
      refine e_iload_n (pc := 76) dX0_feed_76 rfl rfl ?_
      refine e_iald (pc := 77) dX0_feed_77 (fun x16 => ?_)
      refine e_iload (pc := 78) dX0_feed_78 rfl ?_
      refine e_isub (pc := 80) dX0_feed_80 ?_
      refine e_aload_n (pc := 81) dX0_feed_81 rfl rfl ?_
      refine e_getR (pc := 82) dX0_feed_82 hs_X0_24 (fun r17 => ?_)
      refine e_iload_n (pc := 85) dX0_feed_85 rfl rfl ?_
      refine e_iald (pc := 86) dX0_feed_86 (fun x18 => ?_)
      refine e_aload_n (pc := 87) dX0_feed_87 rfl rfl ?_
      refine e_getR (pc := 88) dX0_feed_88 hs_X0_28 (fun r19 => ?_)
      refine e_iload_n (pc := 91) dX0_feed_91 rfl rfl ?_
      refine e_iald (pc := 92) dX0_feed_92 (fun x20 => ?_)
      refine e_callS (pc := 93) (av := [.int x18, .int x20]) (S := [.int (x16 - (x10 + a2)), .int (999 : Int32), .int x2, .ref r14]) ok_X2_workOf ⟨Nat.le_of_ble_eq_true rfl, Nat.le_of_ble_eq_true rfl⟩ ht_X0_131 dX0_feed_93 (s_X2_workOf x18 x20 w9) rfl rfl (Nat.le_of_ble_eq_true rfl) (fun x22 w21 => ?_)
      refine e_iadd (pc := 96) dX0_feed_96 ?_
      refine e_mmin (pc := 97) (Nat.le_of_ble_eq_true rfl) (Nat.le_of_ble_eq_true rfl) hm_X0_136 dX0_feed_97 ?_
      refine e_iast (pc := 100) dX0_feed_100 (fun w23 => ?_)
      refine e_aload_n (pc := 101) dX0_feed_101 rfl rfl ?_
      refine e_getR (pc := 102) dX0_feed_102 hs_X0_34 (fun r24 => ?_)
      refine e_iload_n (pc := 105) dX0_feed_105 rfl rfl ?_
      refine e_iconst (pc := 106) dX0_feed_106 kc_0 ?_
      refine e_iast (pc := 107) dX0_feed_107 (fun w25 => ?_)
      refine e_goto (pc := 108) (tgt := 117) dX0_feed_108 (by decide) ?_
      exact e_vret (pc := 117) dX0_feed_117 rfl
  · refine e_aload_n (pc := 14) dX0_feed_14 rfl rfl ?_
    refine e_getR (pc := 15) dX0_feed_15 hs_X0_34 (fun r26 => ?_)
    refine e_iload_n (pc := 18) dX0_feed_18 rfl rfl ?_
    refine e_bipush (pc := 19) dX0_feed_19 kb_9 ?_
    refine e_aload_n (pc := 21) dX0_feed_21 rfl rfl ?_
    refine e_getR (pc := 22) dX0_feed_22 hs_X0_34 (fun r27 => ?_)
    refine e_iload_n (pc := 25) dX0_feed_25 rfl rfl ?_
    refine e_iald (pc := 26) dX0_feed_26 (fun x28 => ?_)
    refine e_iconst (pc := 27) dX0_feed_27 kc_1 ?_
    refine e_iadd (pc := 28) dX0_feed_28 ?_
    refine e_mmin (pc := 29) (Nat.le_of_ble_eq_true rfl) (Nat.le_of_ble_eq_true rfl) hm_X0_136 dX0_feed_29 ?_
    refine e_iast (pc := 32) dX0_feed_32 (fun w29 => ?_)
    exact e_vret (pc := 33) dX0_feed_33 rfl
def M_X0_passDay : aM := (yX0_passDay, cX0_passDay, 3, none, 3, 69)
theorem ok_X0_passDay : a_okM M_X0_passDay 1 := ⟨⟨by decide +kernel, by decide +kernel⟩, by decide +kernel, a_in 317 (by decide +kernel) rfl, a_in 77 (by decide +kernel) rfl⟩
theorem dX0_passDay_0 : decode M_X0_passDay.2.1 0 = .ok (.aload_n 0, 1) := by decide +kernel
theorem dX0_passDay_1 : decode M_X0_passDay.2.1 1 = .ok (.dup, 1) := by decide +kernel
theorem dX0_passDay_2 : decode M_X0_passDay.2.1 2 = .ok (.getfield 9, 3) := by decide +kernel
theorem dX0_passDay_5 : decode M_X0_passDay.2.1 5 = .ok (.iconst 1, 1) := by decide +kernel
theorem dX0_passDay_6 : decode M_X0_passDay.2.1 6 = .ok (.iadd, 1) := by decide +kernel
theorem dX0_passDay_7 : decode M_X0_passDay.2.1 7 = .ok (.putfield 9, 3) := by decide +kernel
theorem dX0_passDay_10 : decode M_X0_passDay.2.1 10 = .ok (.aload_n 0, 1) := by decide +kernel
theorem dX0_passDay_11 : decode M_X0_passDay.2.1 11 = .ok (.iconst 0, 1) := by decide +kernel
theorem dX0_passDay_12 : decode M_X0_passDay.2.1 12 = .ok (.putfield 21, 3) := by decide +kernel
theorem dX0_passDay_15 : decode M_X0_passDay.2.1 15 = .ok (.iconst 0, 1) := by decide +kernel
theorem dX0_passDay_16 : decode M_X0_passDay.2.1 16 = .ok (.istore_n 2, 1) := by decide +kernel
theorem dX0_passDay_17 : decode M_X0_passDay.2.1 17 = .ok (.iload_n 2, 1) := by decide +kernel
theorem dX0_passDay_18 : decode M_X0_passDay.2.1 18 = .ok (.bipush 9, 2) := by decide +kernel
theorem dX0_passDay_20 : decode M_X0_passDay.2.1 20 = .ok (.if_icmp .ge 31, 3) := by decide +kernel
theorem dX0_passDay_23 : decode M_X0_passDay.2.1 23 = .ok (.aload_n 0, 1) := by decide +kernel
theorem dX0_passDay_24 : decode M_X0_passDay.2.1 24 = .ok (.iload_n 2, 1) := by decide +kernel
theorem dX0_passDay_25 : decode M_X0_passDay.2.1 25 = .ok (.invokevirtual 75, 3) := by decide +kernel
theorem dX0_passDay_28 : decode M_X0_passDay.2.1 28 = .ok (.ifCond .eq 17, 3) := by decide +kernel
theorem dX0_passDay_31 : decode M_X0_passDay.2.1 31 = .ok (.aload_n 0, 1) := by decide +kernel
theorem dX0_passDay_32 : decode M_X0_passDay.2.1 32 = .ok (.iload_n 2, 1) := by decide +kernel
theorem dX0_passDay_33 : decode M_X0_passDay.2.1 33 = .ok (.aload_n 0, 1) := by decide +kernel
theorem dX0_passDay_34 : decode M_X0_passDay.2.1 34 = .ok (.iload_n 2, 1) := by decide +kernel
theorem dX0_passDay_35 : decode M_X0_passDay.2.1 35 = .ok (.aload_n 0, 1) := by decide +kernel
theorem dX0_passDay_36 : decode M_X0_passDay.2.1 36 = .ok (.getfield 9, 3) := by decide +kernel
theorem dX0_passDay_39 : decode M_X0_passDay.2.1 39 = .ok (.invokevirtual 95, 3) := by decide +kernel
theorem dX0_passDay_42 : decode M_X0_passDay.2.1 42 = .ok (.invokevirtual 99, 3) := by decide +kernel
theorem dX0_passDay_45 : decode M_X0_passDay.2.1 45 = .ok (.iinc 2 1, 3) := by decide +kernel
theorem dX0_passDay_48 : decode M_X0_passDay.2.1 48 = .ok (.goto (-31), 3) := by decide +kernel
theorem dX0_passDay_51 : decode M_X0_passDay.2.1 51 = .ok (.iconst 0, 1) := by decide +kernel
theorem dX0_passDay_52 : decode M_X0_passDay.2.1 52 = .ok (.istore_n 2, 1) := by decide +kernel
theorem dX0_passDay_53 : decode M_X0_passDay.2.1 53 = .ok (.iload_n 2, 1) := by decide +kernel
theorem dX0_passDay_54 : decode M_X0_passDay.2.1 54 = .ok (.iconst 5, 1) := by decide +kernel
theorem dX0_passDay_55 : decode M_X0_passDay.2.1 55 = .ok (.if_icmp .ge 14, 3) := by decide +kernel
theorem dX0_passDay_58 : decode M_X0_passDay.2.1 58 = .ok (.aload_n 0, 1) := by decide +kernel
theorem dX0_passDay_59 : decode M_X0_passDay.2.1 59 = .ok (.iload_n 2, 1) := by decide +kernel
theorem dX0_passDay_60 : decode M_X0_passDay.2.1 60 = .ok (.invokevirtual 103, 3) := by decide +kernel
theorem dX0_passDay_63 : decode M_X0_passDay.2.1 63 = .ok (.iinc 2 1, 3) := by decide +kernel
theorem dX0_passDay_66 : decode M_X0_passDay.2.1 66 = .ok (.goto (-13), 3) := by decide +kernel
theorem dX0_passDay_69 : decode M_X0_passDay.2.1 69 = .ok (.iconst 0, 1) := by decide +kernel
theorem dX0_passDay_70 : decode M_X0_passDay.2.1 70 = .ok (.istore_n 2, 1) := by decide +kernel
theorem dX0_passDay_71 : decode M_X0_passDay.2.1 71 = .ok (.iload_n 2, 1) := by decide +kernel
theorem dX0_passDay_72 : decode M_X0_passDay.2.1 72 = .ok (.bipush 9, 2) := by decide +kernel
theorem dX0_passDay_74 : decode M_X0_passDay.2.1 74 = .ok (.if_icmp .ge 23, 3) := by decide +kernel
theorem dX0_passDay_77 : decode M_X0_passDay.2.1 77 = .ok (.aload_n 0, 1) := by decide +kernel
theorem dX0_passDay_78 : decode M_X0_passDay.2.1 78 = .ok (.iload_n 2, 1) := by decide +kernel
theorem dX0_passDay_79 : decode M_X0_passDay.2.1 79 = .ok (.invokevirtual 75, 3) := by decide +kernel
theorem dX0_passDay_82 : decode M_X0_passDay.2.1 82 = .ok (.ifCond .eq 9, 3) := by decide +kernel
theorem dX0_passDay_85 : decode M_X0_passDay.2.1 85 = .ok (.aload_n 0, 1) := by decide +kernel
theorem dX0_passDay_86 : decode M_X0_passDay.2.1 86 = .ok (.iload_n 2, 1) := by decide +kernel
theorem dX0_passDay_87 : decode M_X0_passDay.2.1 87 = .ok (.iload_n 1, 1) := by decide +kernel
theorem dX0_passDay_88 : decode M_X0_passDay.2.1 88 = .ok (.invokevirtual 106, 3) := by decide +kernel
theorem dX0_passDay_91 : decode M_X0_passDay.2.1 91 = .ok (.iinc 2 1, 3) := by decide +kernel
theorem dX0_passDay_94 : decode M_X0_passDay.2.1 94 = .ok (.goto (-23), 3) := by decide +kernel
theorem dX0_passDay_97 : decode M_X0_passDay.2.1 97 = .ok (.return_, 1) := by decide +kernel
theorem hv_X0_95 : a_okV RX0 M_X0_wantedPlace 95 := ⟨a_in 318 (by decide +kernel) rfl, a_in 319 (by decide +kernel) rfl, a_in 320 (by decide +kernel) rfl⟩
theorem hv_X0_99 : a_okV RX0 M_X0_goTowards 99 := ⟨a_in 336 (by decide +kernel) rfl, a_in 338 (by decide +kernel) rfl, a_in 3 (by decide +kernel) rfl⟩
theorem hv_X0_103 : a_okV RX0 M_X0_speak 103 := ⟨a_in 340 (by decide +kernel) rfl, a_in 342 (by decide +kernel) rfl, a_in 4 (by decide +kernel) rfl⟩
theorem hv_X0_106 : a_okV RX0 M_X0_feed 106 := ⟨a_in 366 (by decide +kernel) rfl, a_in 368 (by decide +kernel) rfl, a_in 8 (by decide +kernel) rfl⟩
def c_X0_passDay_71 (a0 : Nat) (a1 : Int32) (k71 : Int32 → aW → Option (Unit × aW)) (b2 : Int32) (w : aW) : Option (Unit × aW) :=
  if (9 : Int32) ≤ b2 then
    some ((), w)
  else
    cV 0 w a0 (bk (f_X0_isAlive a0 b2 w) fun x12 w11 =>
    if x12 = (0 : Int32) then
      k71 (b2 + 1) w11
    else
      cV 0 w11 a0 (bk (f_X0_feed a0 b2 a1 w11) fun _ w13 =>
      k71 (b2 + 1) w13))
theorem t_X0_passDay_71 (a0 : Nat) (a1 : Int32) (k71 : Int32 → aW → Option (Unit × aW)) (hk71 : ∀ (b2 : Int32) (w : aW), Ev rvV M_X0_passDay 71 [some (.ref a0), some (.int a1), some (.int b2)] [] w (k71 b2 w)) (b2 : Int32) (w : aW) : Ev rvV M_X0_passDay 71 [some (.ref a0), some (.int a1), some (.int b2)] [] w (c_X0_passDay_71 a0 a1 k71 b2 w) := by
  unfold c_X0_passDay_71
  refine e_iload_n (pc := 71) dX0_passDay_71 rfl rfl ?_
  refine e_bipush (pc := 72) dX0_passDay_72 kb_9 ?_
  refine e_icmp_ge (pc := 74) (tgt := 97) dX0_passDay_74 (by decide) (fun _ => ?_) (fun _ => ?_)
  · exact e_vret (pc := 97) dX0_passDay_97 rfl
  · refine e_aload_n (pc := 77) dX0_passDay_77 rfl rfl ?_
    refine e_iload_n (pc := 78) dX0_passDay_78 rfl rfl ?_
    refine e_callV (pc := 79) (av := [.int b2]) (S := []) (c0 := 0) rfl rfl ok_X0_isAlive ⟨Nat.le_of_ble_eq_true rfl, Nat.le_of_ble_eq_true rfl⟩ hv_X0_75 dX0_passDay_79 (s_X0_isAlive a0 b2 w) rfl rfl (Nat.le_of_ble_eq_true rfl) (fun x12 w11 => ?_)
    refine e_if_eq (pc := 82) (tgt := 91) dX0_passDay_82 (by decide) (fun _ => ?_) (fun _ => ?_)
    · refine e_iinc (L' := [some (.ref a0), some (.int a1), some (.int (b2 + 1))]) (pc := 91) (v := 1) dX0_passDay_91 (by decide) rfl kc_1 rfl ?_
      refine e_goto (pc := 94) (tgt := 71) dX0_passDay_94 (by decide) ?_
      exact hk71 (b2 + 1) w11
    · refine e_aload_n (pc := 85) dX0_passDay_85 rfl rfl ?_
      refine e_iload_n (pc := 86) dX0_passDay_86 rfl rfl ?_
      refine e_iload_n (pc := 87) dX0_passDay_87 rfl rfl ?_
      refine e_callV (pc := 88) (av := [.int b2, .int a1]) (S := []) (c0 := 0) rfl rfl ok_X0_feed ⟨Nat.le_of_ble_eq_true rfl, Nat.le_of_ble_eq_true rfl⟩ hv_X0_106 dX0_passDay_88 (s_X0_feed a0 b2 a1 w11) rfl rfl (Nat.le_of_ble_eq_true rfl) (fun _ w13 => ?_)
      refine e_iinc (L' := [some (.ref a0), some (.int a1), some (.int (b2 + 1))]) (pc := 91) (v := 1) dX0_passDay_91 (by decide) rfl kc_1 rfl ?_
      refine e_goto (pc := 94) (tgt := 71) dX0_passDay_94 (by decide) ?_
      exact hk71 (b2 + 1) w13
def c_X0_passDay_53 (a0 : Nat) (a1 : Int32) (k53 : Int32 → aW → Option (Unit × aW)) (b2 : Int32) (w : aW) : Option (Unit × aW) :=
  if (5 : Int32) ≤ b2 then
    loop2 (c_X0_passDay_71 a0 a1) a_fuel (0 : Int32) w
  else
    cV 0 w a0 (bk (f_X0_speak a0 b2 w) fun _ w10 =>
    k53 (b2 + 1) w10)
theorem t_X0_passDay_53 (a0 : Nat) (a1 : Int32) (k53 : Int32 → aW → Option (Unit × aW)) (hk53 : ∀ (b2 : Int32) (w : aW), Ev rvV M_X0_passDay 53 [some (.ref a0), some (.int a1), some (.int b2)] [] w (k53 b2 w)) (b2 : Int32) (w : aW) : Ev rvV M_X0_passDay 53 [some (.ref a0), some (.int a1), some (.int b2)] [] w (c_X0_passDay_53 a0 a1 k53 b2 w) := by
  unfold c_X0_passDay_53
  refine e_iload_n (pc := 53) dX0_passDay_53 rfl rfl ?_
  refine e_iconst (pc := 54) dX0_passDay_54 kc_5 ?_
  refine e_icmp_ge (pc := 55) (tgt := 69) dX0_passDay_55 (by decide) (fun _ => ?_) (fun _ => ?_)
  · refine e_iconst (pc := 69) dX0_passDay_69 kc_0 ?_
    refine e_istore_n (L' := [some (.ref a0), some (.int a1), some (.int (0 : Int32))]) (pc := 70) dX0_passDay_70 rfl (by decide) rfl ?_
    exact e_loop2 (L := fun b2 => [some (.ref a0), some (.int a1), some (.int b2)]) (S := fun b2 => []) (fun kf hkf => t_X0_passDay_71 a0 a1  kf hkf) _ (0 : Int32) w
  · refine e_aload_n (pc := 58) dX0_passDay_58 rfl rfl ?_
    refine e_iload_n (pc := 59) dX0_passDay_59 rfl rfl ?_
    refine e_callV (pc := 60) (av := [.int b2]) (S := []) (c0 := 0) rfl rfl ok_X0_speak ⟨Nat.le_of_ble_eq_true rfl, Nat.le_of_ble_eq_true rfl⟩ hv_X0_103 dX0_passDay_60 (s_X0_speak a0 b2 w) rfl rfl (Nat.le_of_ble_eq_true rfl) (fun _ w10 => ?_)
    refine e_iinc (L' := [some (.ref a0), some (.int a1), some (.int (b2 + 1))]) (pc := 63) (v := 1) dX0_passDay_63 (by decide) rfl kc_1 rfl ?_
    refine e_goto (pc := 66) (tgt := 53) dX0_passDay_66 (by decide) ?_
    exact hk53 (b2 + 1) w10
def c_X0_passDay_17 (a0 : Nat) (a1 : Int32) (k17 : Int32 → aW → Option (Unit × aW)) (b2 : Int32) (w : aW) : Option (Unit × aW) :=
  if (9 : Int32) ≤ b2 then
    loop2 (c_X0_passDay_53 a0 a1) a_fuel (0 : Int32) w
  else
    cV 0 w a0 (bk (f_X0_isAlive a0 b2 w) fun x5 w4 =>
    if x5 = (0 : Int32) then
      k17 (b2 + 1) w4
    else
      (gI 0 w4 a0 0).bind fun x6 =>
      cV 0 w4 a0 (bk (f_X0_wantedPlace a0 b2 x6 w4) fun x8 w7 =>
      cV 0 w7 a0 (bk (f_X0_goTowards a0 b2 x8 w7) fun _ w9 =>
      k17 (b2 + 1) w9)))
theorem t_X0_passDay_17 (a0 : Nat) (a1 : Int32) (k17 : Int32 → aW → Option (Unit × aW)) (hk17 : ∀ (b2 : Int32) (w : aW), Ev rvV M_X0_passDay 17 [some (.ref a0), some (.int a1), some (.int b2)] [] w (k17 b2 w)) (b2 : Int32) (w : aW) : Ev rvV M_X0_passDay 17 [some (.ref a0), some (.int a1), some (.int b2)] [] w (c_X0_passDay_17 a0 a1 k17 b2 w) := by
  unfold c_X0_passDay_17
  refine e_iload_n (pc := 17) dX0_passDay_17 rfl rfl ?_
  refine e_bipush (pc := 18) dX0_passDay_18 kb_9 ?_
  refine e_icmp_ge (pc := 20) (tgt := 51) dX0_passDay_20 (by decide) (fun _ => ?_) (fun _ => ?_)
  · refine e_iconst (pc := 51) dX0_passDay_51 kc_0 ?_
    refine e_istore_n (L' := [some (.ref a0), some (.int a1), some (.int (0 : Int32))]) (pc := 52) dX0_passDay_52 rfl (by decide) rfl ?_
    exact e_loop2 (L := fun b2 => [some (.ref a0), some (.int a1), some (.int b2)]) (S := fun b2 => []) (fun kf hkf => t_X0_passDay_53 a0 a1  kf hkf) _ (0 : Int32) w
  · refine e_aload_n (pc := 23) dX0_passDay_23 rfl rfl ?_
    refine e_iload_n (pc := 24) dX0_passDay_24 rfl rfl ?_
    refine e_callV (pc := 25) (av := [.int b2]) (S := []) (c0 := 0) rfl rfl ok_X0_isAlive ⟨Nat.le_of_ble_eq_true rfl, Nat.le_of_ble_eq_true rfl⟩ hv_X0_75 dX0_passDay_25 (s_X0_isAlive a0 b2 w) rfl rfl (Nat.le_of_ble_eq_true rfl) (fun x5 w4 => ?_)
    refine e_if_eq (pc := 28) (tgt := 45) dX0_passDay_28 (by decide) (fun _ => ?_) (fun _ => ?_)
    · refine e_iinc (L' := [some (.ref a0), some (.int a1), some (.int (b2 + 1))]) (pc := 45) (v := 1) dX0_passDay_45 (by decide) rfl kc_1 rfl ?_
      refine e_goto (pc := 48) (tgt := 17) dX0_passDay_48 (by decide) ?_
      exact hk17 (b2 + 1) w4
    · refine e_aload_n (pc := 31) dX0_passDay_31 rfl rfl ?_
      refine e_iload_n (pc := 32) dX0_passDay_32 rfl rfl ?_
      refine e_aload_n (pc := 33) dX0_passDay_33 rfl rfl ?_
      refine e_iload_n (pc := 34) dX0_passDay_34 rfl rfl ?_
      refine e_aload_n (pc := 35) dX0_passDay_35 rfl rfl ?_
      refine e_getI (pc := 36) dX0_passDay_36 hs_X0_9 (fun x6 => ?_)
      refine e_callV (pc := 39) (av := [.int b2, .int x6]) (S := [.int b2, .ref a0]) (c0 := 0) rfl rfl ok_X0_wantedPlace ⟨Nat.le_of_ble_eq_true rfl, Nat.le_of_ble_eq_true rfl⟩ hv_X0_95 dX0_passDay_39 (s_X0_wantedPlace a0 b2 x6 w4) rfl rfl (Nat.le_of_ble_eq_true rfl) (fun x8 w7 => ?_)
      refine e_callV (pc := 42) (av := [.int b2, .int x8]) (S := []) (c0 := 0) rfl rfl ok_X0_goTowards ⟨Nat.le_of_ble_eq_true rfl, Nat.le_of_ble_eq_true rfl⟩ hv_X0_99 dX0_passDay_42 (s_X0_goTowards a0 b2 x8 w7) rfl rfl (Nat.le_of_ble_eq_true rfl) (fun _ w9 => ?_)
      refine e_iinc (L' := [some (.ref a0), some (.int a1), some (.int (b2 + 1))]) (pc := 45) (v := 1) dX0_passDay_45 (by decide) rfl kc_1 rfl ?_
      refine e_goto (pc := 48) (tgt := 17) dX0_passDay_48 (by decide) ?_
      exact hk17 (b2 + 1) w9
def f_X0_passDay (a0 : Nat) (a1 : Int32) (w : aW) : Option (Unit × aW) :=
  (gI 0 w a0 0).bind fun x1 =>
  (sF 0 w a0 0 (.int (x1 + (1 : Int32)))).bind fun w2 =>
  (sF 0 w2 a0 3 (.int (0 : Int32))).bind fun w3 =>
  loop2 (c_X0_passDay_17 a0 a1) a_fuel (0 : Int32) w3
theorem s_X0_passDay (a0 : Nat) (a1 : Int32) (w : aW) : Sp rvV M_X0_passDay [.ref a0, .int a1] w (f_X0_passDay a0 a1 w) := by
  refine e_entry [some (.ref a0), some (.int a1), none] (by decide +kernel) (Nat.le_of_ble_eq_true rfl) (fun _ => rfl) ?_
  unfold f_X0_passDay
  refine e_aload_n (pc := 0) dX0_passDay_0 rfl rfl ?_
  refine e_dup (pc := 1) dX0_passDay_1 rfl ?_
  refine e_getI (pc := 2) dX0_passDay_2 hs_X0_9 (fun x1 => ?_)
  refine e_iconst (pc := 5) dX0_passDay_5 kc_1 ?_
  refine e_iadd (pc := 6) dX0_passDay_6 ?_
  refine e_put (pc := 7) dX0_passDay_7 hw_X0_9 (fun _ => rfl) (fun _ => rfl) (fun w2 => ?_)
  refine e_aload_n (pc := 10) dX0_passDay_10 rfl rfl ?_
  refine e_iconst (pc := 11) dX0_passDay_11 kc_0 ?_
  refine e_put (pc := 12) dX0_passDay_12 hw_X0_21 (fun _ => rfl) (fun _ => rfl) (fun w3 => ?_)
  refine e_iconst (pc := 15) dX0_passDay_15 kc_0 ?_
  refine e_istore_n (L' := [some (.ref a0), some (.int a1), some (.int (0 : Int32))]) (pc := 16) dX0_passDay_16 rfl (by decide) rfl ?_
  exact e_loop2 (L := fun b2 => [some (.ref a0), some (.int a1), some (.int b2)]) (S := fun b2 => []) (fun kf hkf => t_X0_passDay_17 a0 a1  kf hkf) _ (0 : Int32) w3
def M_J6_bitCount_0f7a4 : aM := (yJ6_bitCount_0f7a4, cJ6_bitCount_0f7a4, 1, (some .int), 0, 0)
theorem ok_J6_bitCount_0f7a4 : a_okM M_J6_bitCount_0f7a4 1 := ⟨⟨by decide +kernel, by decide +kernel⟩, by decide +kernel, a_in 382 (by decide +kernel) rfl, a_in 83 (by decide +kernel) rfl⟩
theorem dJ6_bitCount_0f7a4_0 : decode M_J6_bitCount_0f7a4.2.1 0 = .ok (.iload_n 0, 1) := by decide +kernel
theorem dJ6_bitCount_0f7a4_1 : decode M_J6_bitCount_0f7a4.2.1 1 = .ok (.iload_n 0, 1) := by decide +kernel
theorem dJ6_bitCount_0f7a4_2 : decode M_J6_bitCount_0f7a4.2.1 2 = .ok (.iconst 1, 1) := by decide +kernel
theorem dJ6_bitCount_0f7a4_3 : decode M_J6_bitCount_0f7a4.2.1 3 = .ok (.iushr, 1) := by decide +kernel
theorem dJ6_bitCount_0f7a4_4 : decode M_J6_bitCount_0f7a4.2.1 4 = .ok (.ldc_w 265, 3) := by decide +kernel
theorem dJ6_bitCount_0f7a4_7 : decode M_J6_bitCount_0f7a4.2.1 7 = .ok (.iand, 1) := by decide +kernel
theorem dJ6_bitCount_0f7a4_8 : decode M_J6_bitCount_0f7a4.2.1 8 = .ok (.isub, 1) := by decide +kernel
theorem dJ6_bitCount_0f7a4_9 : decode M_J6_bitCount_0f7a4.2.1 9 = .ok (.istore_n 0, 1) := by decide +kernel
theorem dJ6_bitCount_0f7a4_10 : decode M_J6_bitCount_0f7a4.2.1 10 = .ok (.iload_n 0, 1) := by decide +kernel
theorem dJ6_bitCount_0f7a4_11 : decode M_J6_bitCount_0f7a4.2.1 11 = .ok (.ldc_w 266, 3) := by decide +kernel
theorem dJ6_bitCount_0f7a4_14 : decode M_J6_bitCount_0f7a4.2.1 14 = .ok (.iand, 1) := by decide +kernel
theorem dJ6_bitCount_0f7a4_15 : decode M_J6_bitCount_0f7a4.2.1 15 = .ok (.iload_n 0, 1) := by decide +kernel
theorem dJ6_bitCount_0f7a4_16 : decode M_J6_bitCount_0f7a4.2.1 16 = .ok (.iconst 2, 1) := by decide +kernel
theorem dJ6_bitCount_0f7a4_17 : decode M_J6_bitCount_0f7a4.2.1 17 = .ok (.iushr, 1) := by decide +kernel
theorem dJ6_bitCount_0f7a4_18 : decode M_J6_bitCount_0f7a4.2.1 18 = .ok (.ldc_w 266, 3) := by decide +kernel
theorem dJ6_bitCount_0f7a4_21 : decode M_J6_bitCount_0f7a4.2.1 21 = .ok (.iand, 1) := by decide +kernel
theorem dJ6_bitCount_0f7a4_22 : decode M_J6_bitCount_0f7a4.2.1 22 = .ok (.iadd, 1) := by decide +kernel
theorem dJ6_bitCount_0f7a4_23 : decode M_J6_bitCount_0f7a4.2.1 23 = .ok (.istore_n 0, 1) := by decide +kernel
theorem dJ6_bitCount_0f7a4_24 : decode M_J6_bitCount_0f7a4.2.1 24 = .ok (.iload_n 0, 1) := by decide +kernel
theorem dJ6_bitCount_0f7a4_25 : decode M_J6_bitCount_0f7a4.2.1 25 = .ok (.iload_n 0, 1) := by decide +kernel
theorem dJ6_bitCount_0f7a4_26 : decode M_J6_bitCount_0f7a4.2.1 26 = .ok (.iconst 4, 1) := by decide +kernel
theorem dJ6_bitCount_0f7a4_27 : decode M_J6_bitCount_0f7a4.2.1 27 = .ok (.iushr, 1) := by decide +kernel
theorem dJ6_bitCount_0f7a4_28 : decode M_J6_bitCount_0f7a4.2.1 28 = .ok (.iadd, 1) := by decide +kernel
theorem dJ6_bitCount_0f7a4_29 : decode M_J6_bitCount_0f7a4.2.1 29 = .ok (.ldc_w 267, 3) := by decide +kernel
theorem dJ6_bitCount_0f7a4_32 : decode M_J6_bitCount_0f7a4.2.1 32 = .ok (.iand, 1) := by decide +kernel
theorem dJ6_bitCount_0f7a4_33 : decode M_J6_bitCount_0f7a4.2.1 33 = .ok (.istore_n 0, 1) := by decide +kernel
theorem dJ6_bitCount_0f7a4_34 : decode M_J6_bitCount_0f7a4.2.1 34 = .ok (.iload_n 0, 1) := by decide +kernel
theorem dJ6_bitCount_0f7a4_35 : decode M_J6_bitCount_0f7a4.2.1 35 = .ok (.iload_n 0, 1) := by decide +kernel
theorem dJ6_bitCount_0f7a4_36 : decode M_J6_bitCount_0f7a4.2.1 36 = .ok (.bipush 8, 2) := by decide +kernel
theorem dJ6_bitCount_0f7a4_38 : decode M_J6_bitCount_0f7a4.2.1 38 = .ok (.iushr, 1) := by decide +kernel
theorem dJ6_bitCount_0f7a4_39 : decode M_J6_bitCount_0f7a4.2.1 39 = .ok (.iadd, 1) := by decide +kernel
theorem dJ6_bitCount_0f7a4_40 : decode M_J6_bitCount_0f7a4.2.1 40 = .ok (.istore_n 0, 1) := by decide +kernel
theorem dJ6_bitCount_0f7a4_41 : decode M_J6_bitCount_0f7a4.2.1 41 = .ok (.iload_n 0, 1) := by decide +kernel
theorem dJ6_bitCount_0f7a4_42 : decode M_J6_bitCount_0f7a4.2.1 42 = .ok (.iload_n 0, 1) := by decide +kernel
theorem dJ6_bitCount_0f7a4_43 : decode M_J6_bitCount_0f7a4.2.1 43 = .ok (.bipush 16, 2) := by decide +kernel
theorem dJ6_bitCount_0f7a4_45 : decode M_J6_bitCount_0f7a4.2.1 45 = .ok (.iushr, 1) := by decide +kernel
theorem dJ6_bitCount_0f7a4_46 : decode M_J6_bitCount_0f7a4.2.1 46 = .ok (.iadd, 1) := by decide +kernel
theorem dJ6_bitCount_0f7a4_47 : decode M_J6_bitCount_0f7a4.2.1 47 = .ok (.istore_n 0, 1) := by decide +kernel
theorem dJ6_bitCount_0f7a4_48 : decode M_J6_bitCount_0f7a4.2.1 48 = .ok (.iload_n 0, 1) := by decide +kernel
theorem dJ6_bitCount_0f7a4_49 : decode M_J6_bitCount_0f7a4.2.1 49 = .ok (.bipush 63, 2) := by decide +kernel
theorem dJ6_bitCount_0f7a4_51 : decode M_J6_bitCount_0f7a4.2.1 51 = .ok (.iand, 1) := by decide +kernel
theorem dJ6_bitCount_0f7a4_52 : decode M_J6_bitCount_0f7a4.2.1 52 = .ok (.ireturn, 1) := by decide +kernel
def f_J6_bitCount_0f7a4 (a0 : Int32) (w : aW) : Option (Int32 × aW) :=
  some (((((((((a0 - (((a0.toUInt32 >>> ((1 : Int32).toUInt32 &&& Int32.toUInt32 31)).toInt32) &&& (1431655765 : Int32))) &&& (858993459 : Int32)) + ((((a0 - (((a0.toUInt32 >>> ((1 : Int32).toUInt32 &&& Int32.toUInt32 31)).toInt32) &&& (1431655765 : Int32))).toUInt32 >>> ((2 : Int32).toUInt32 &&& Int32.toUInt32 31)).toInt32) &&& (858993459 : Int32))) + (((((a0 - (((a0.toUInt32 >>> ((1 : Int32).toUInt32 &&& Int32.toUInt32 31)).toInt32) &&& (1431655765 : Int32))) &&& (858993459 : Int32)) + ((((a0 - (((a0.toUInt32 >>> ((1 : Int32).toUInt32 &&& Int32.toUInt32 31)).toInt32) &&& (1431655765 : Int32))).toUInt32 >>> ((2 : Int32).toUInt32 &&& Int32.toUInt32 31)).toInt32) &&& (858993459 : Int32))).toUInt32 >>> ((4 : Int32).toUInt32 &&& Int32.toUInt32 31)).toInt32)) &&& (252645135 : Int32)) + (((((((a0 - (((a0.toUInt32 >>> ((1 : Int32).toUInt32 &&& Int32.toUInt32 31)).toInt32) &&& (1431655765 : Int32))) &&& (858993459 : Int32)) + ((((a0 - (((a0.toUInt32 >>> ((1 : Int32).toUInt32 &&& Int32.toUInt32 31)).toInt32) &&& (1431655765 : Int32))).toUInt32 >>> ((2 : Int32).toUInt32 &&& Int32.toUInt32 31)).toInt32) &&& (858993459 : Int32))) + (((((a0 - (((a0.toUInt32 >>> ((1 : Int32).toUInt32 &&& Int32.toUInt32 31)).toInt32) &&& (1431655765 : Int32))) &&& (858993459 : Int32)) + ((((a0 - (((a0.toUInt32 >>> ((1 : Int32).toUInt32 &&& Int32.toUInt32 31)).toInt32) &&& (1431655765 : Int32))).toUInt32 >>> ((2 : Int32).toUInt32 &&& Int32.toUInt32 31)).toInt32) &&& (858993459 : Int32))).toUInt32 >>> ((4 : Int32).toUInt32 &&& Int32.toUInt32 31)).toInt32)) &&& (252645135 : Int32)).toUInt32 >>> ((8 : Int32).toUInt32 &&& Int32.toUInt32 31)).toInt32)) + ((((((((a0 - (((a0.toUInt32 >>> ((1 : Int32).toUInt32 &&& Int32.toUInt32 31)).toInt32) &&& (1431655765 : Int32))) &&& (858993459 : Int32)) + ((((a0 - (((a0.toUInt32 >>> ((1 : Int32).toUInt32 &&& Int32.toUInt32 31)).toInt32) &&& (1431655765 : Int32))).toUInt32 >>> ((2 : Int32).toUInt32 &&& Int32.toUInt32 31)).toInt32) &&& (858993459 : Int32))) + (((((a0 - (((a0.toUInt32 >>> ((1 : Int32).toUInt32 &&& Int32.toUInt32 31)).toInt32) &&& (1431655765 : Int32))) &&& (858993459 : Int32)) + ((((a0 - (((a0.toUInt32 >>> ((1 : Int32).toUInt32 &&& Int32.toUInt32 31)).toInt32) &&& (1431655765 : Int32))).toUInt32 >>> ((2 : Int32).toUInt32 &&& Int32.toUInt32 31)).toInt32) &&& (858993459 : Int32))).toUInt32 >>> ((4 : Int32).toUInt32 &&& Int32.toUInt32 31)).toInt32)) &&& (252645135 : Int32)) + (((((((a0 - (((a0.toUInt32 >>> ((1 : Int32).toUInt32 &&& Int32.toUInt32 31)).toInt32) &&& (1431655765 : Int32))) &&& (858993459 : Int32)) + ((((a0 - (((a0.toUInt32 >>> ((1 : Int32).toUInt32 &&& Int32.toUInt32 31)).toInt32) &&& (1431655765 : Int32))).toUInt32 >>> ((2 : Int32).toUInt32 &&& Int32.toUInt32 31)).toInt32) &&& (858993459 : Int32))) + (((((a0 - (((a0.toUInt32 >>> ((1 : Int32).toUInt32 &&& Int32.toUInt32 31)).toInt32) &&& (1431655765 : Int32))) &&& (858993459 : Int32)) + ((((a0 - (((a0.toUInt32 >>> ((1 : Int32).toUInt32 &&& Int32.toUInt32 31)).toInt32) &&& (1431655765 : Int32))).toUInt32 >>> ((2 : Int32).toUInt32 &&& Int32.toUInt32 31)).toInt32) &&& (858993459 : Int32))).toUInt32 >>> ((4 : Int32).toUInt32 &&& Int32.toUInt32 31)).toInt32)) &&& (252645135 : Int32)).toUInt32 >>> ((8 : Int32).toUInt32 &&& Int32.toUInt32 31)).toInt32)).toUInt32 >>> ((16 : Int32).toUInt32 &&& Int32.toUInt32 31)).toInt32)) &&& (63 : Int32)), w)
theorem s_J6_bitCount_0f7a4 (a0 : Int32) (w : aW) : Sp rvI M_J6_bitCount_0f7a4 [.int a0] w (f_J6_bitCount_0f7a4 a0 w) := by
  refine e_entry [some (.int a0)] (by decide +kernel) (Nat.le_of_ble_eq_true rfl) (fun _ => rfl) ?_
  unfold f_J6_bitCount_0f7a4
  refine e_iload_n (pc := 0) dJ6_bitCount_0f7a4_0 rfl rfl ?_
  refine e_iload_n (pc := 1) dJ6_bitCount_0f7a4_1 rfl rfl ?_
  refine e_iconst (pc := 2) dJ6_bitCount_0f7a4_2 kc_1 ?_
  refine e_iushr (pc := 3) dJ6_bitCount_0f7a4_3 ?_
  refine e_ldcw (pc := 4) (v := 1431655765) dJ6_bitCount_0f7a4_4 (a_in 383 (by decide +kernel) rfl) ?_
  refine e_iand (pc := 7) dJ6_bitCount_0f7a4_7 ?_
  refine e_isub (pc := 8) dJ6_bitCount_0f7a4_8 ?_
  refine e_istore_n (L' := [some (.int (a0 - (((a0.toUInt32 >>> ((1 : Int32).toUInt32 &&& Int32.toUInt32 31)).toInt32) &&& (1431655765 : Int32))))]) (pc := 9) dJ6_bitCount_0f7a4_9 rfl (by decide) rfl ?_
  refine e_iload_n (pc := 10) dJ6_bitCount_0f7a4_10 rfl rfl ?_
  refine e_ldcw (pc := 11) (v := 858993459) dJ6_bitCount_0f7a4_11 (a_in 384 (by decide +kernel) rfl) ?_
  refine e_iand (pc := 14) dJ6_bitCount_0f7a4_14 ?_
  refine e_iload_n (pc := 15) dJ6_bitCount_0f7a4_15 rfl rfl ?_
  refine e_iconst (pc := 16) dJ6_bitCount_0f7a4_16 kc_2 ?_
  refine e_iushr (pc := 17) dJ6_bitCount_0f7a4_17 ?_
  refine e_ldcw (pc := 18) (v := 858993459) dJ6_bitCount_0f7a4_18 (a_in 384 (by decide +kernel) rfl) ?_
  refine e_iand (pc := 21) dJ6_bitCount_0f7a4_21 ?_
  refine e_iadd (pc := 22) dJ6_bitCount_0f7a4_22 ?_
  refine e_istore_n (L' := [some (.int (((a0 - (((a0.toUInt32 >>> ((1 : Int32).toUInt32 &&& Int32.toUInt32 31)).toInt32) &&& (1431655765 : Int32))) &&& (858993459 : Int32)) + ((((a0 - (((a0.toUInt32 >>> ((1 : Int32).toUInt32 &&& Int32.toUInt32 31)).toInt32) &&& (1431655765 : Int32))).toUInt32 >>> ((2 : Int32).toUInt32 &&& Int32.toUInt32 31)).toInt32) &&& (858993459 : Int32))))]) (pc := 23) dJ6_bitCount_0f7a4_23 rfl (by decide) rfl ?_
  refine e_iload_n (pc := 24) dJ6_bitCount_0f7a4_24 rfl rfl ?_
  refine e_iload_n (pc := 25) dJ6_bitCount_0f7a4_25 rfl rfl ?_
  refine e_iconst (pc := 26) dJ6_bitCount_0f7a4_26 kc_4 ?_
  refine e_iushr (pc := 27) dJ6_bitCount_0f7a4_27 ?_
  refine e_iadd (pc := 28) dJ6_bitCount_0f7a4_28 ?_
  refine e_ldcw (pc := 29) (v := 252645135) dJ6_bitCount_0f7a4_29 (a_in 385 (by decide +kernel) rfl) ?_
  refine e_iand (pc := 32) dJ6_bitCount_0f7a4_32 ?_
  refine e_istore_n (L' := [some (.int (((((a0 - (((a0.toUInt32 >>> ((1 : Int32).toUInt32 &&& Int32.toUInt32 31)).toInt32) &&& (1431655765 : Int32))) &&& (858993459 : Int32)) + ((((a0 - (((a0.toUInt32 >>> ((1 : Int32).toUInt32 &&& Int32.toUInt32 31)).toInt32) &&& (1431655765 : Int32))).toUInt32 >>> ((2 : Int32).toUInt32 &&& Int32.toUInt32 31)).toInt32) &&& (858993459 : Int32))) + (((((a0 - (((a0.toUInt32 >>> ((1 : Int32).toUInt32 &&& Int32.toUInt32 31)).toInt32) &&& (1431655765 : Int32))) &&& (858993459 : Int32)) + ((((a0 - (((a0.toUInt32 >>> ((1 : Int32).toUInt32 &&& Int32.toUInt32 31)).toInt32) &&& (1431655765 : Int32))).toUInt32 >>> ((2 : Int32).toUInt32 &&& Int32.toUInt32 31)).toInt32) &&& (858993459 : Int32))).toUInt32 >>> ((4 : Int32).toUInt32 &&& Int32.toUInt32 31)).toInt32)) &&& (252645135 : Int32)))]) (pc := 33) dJ6_bitCount_0f7a4_33 rfl (by decide) rfl ?_
  refine e_iload_n (pc := 34) dJ6_bitCount_0f7a4_34 rfl rfl ?_
  refine e_iload_n (pc := 35) dJ6_bitCount_0f7a4_35 rfl rfl ?_
  refine e_bipush (pc := 36) dJ6_bitCount_0f7a4_36 kb_8 ?_
  refine e_iushr (pc := 38) dJ6_bitCount_0f7a4_38 ?_
  refine e_iadd (pc := 39) dJ6_bitCount_0f7a4_39 ?_
  refine e_istore_n (L' := [some (.int ((((((a0 - (((a0.toUInt32 >>> ((1 : Int32).toUInt32 &&& Int32.toUInt32 31)).toInt32) &&& (1431655765 : Int32))) &&& (858993459 : Int32)) + ((((a0 - (((a0.toUInt32 >>> ((1 : Int32).toUInt32 &&& Int32.toUInt32 31)).toInt32) &&& (1431655765 : Int32))).toUInt32 >>> ((2 : Int32).toUInt32 &&& Int32.toUInt32 31)).toInt32) &&& (858993459 : Int32))) + (((((a0 - (((a0.toUInt32 >>> ((1 : Int32).toUInt32 &&& Int32.toUInt32 31)).toInt32) &&& (1431655765 : Int32))) &&& (858993459 : Int32)) + ((((a0 - (((a0.toUInt32 >>> ((1 : Int32).toUInt32 &&& Int32.toUInt32 31)).toInt32) &&& (1431655765 : Int32))).toUInt32 >>> ((2 : Int32).toUInt32 &&& Int32.toUInt32 31)).toInt32) &&& (858993459 : Int32))).toUInt32 >>> ((4 : Int32).toUInt32 &&& Int32.toUInt32 31)).toInt32)) &&& (252645135 : Int32)) + (((((((a0 - (((a0.toUInt32 >>> ((1 : Int32).toUInt32 &&& Int32.toUInt32 31)).toInt32) &&& (1431655765 : Int32))) &&& (858993459 : Int32)) + ((((a0 - (((a0.toUInt32 >>> ((1 : Int32).toUInt32 &&& Int32.toUInt32 31)).toInt32) &&& (1431655765 : Int32))).toUInt32 >>> ((2 : Int32).toUInt32 &&& Int32.toUInt32 31)).toInt32) &&& (858993459 : Int32))) + (((((a0 - (((a0.toUInt32 >>> ((1 : Int32).toUInt32 &&& Int32.toUInt32 31)).toInt32) &&& (1431655765 : Int32))) &&& (858993459 : Int32)) + ((((a0 - (((a0.toUInt32 >>> ((1 : Int32).toUInt32 &&& Int32.toUInt32 31)).toInt32) &&& (1431655765 : Int32))).toUInt32 >>> ((2 : Int32).toUInt32 &&& Int32.toUInt32 31)).toInt32) &&& (858993459 : Int32))).toUInt32 >>> ((4 : Int32).toUInt32 &&& Int32.toUInt32 31)).toInt32)) &&& (252645135 : Int32)).toUInt32 >>> ((8 : Int32).toUInt32 &&& Int32.toUInt32 31)).toInt32)))]) (pc := 40) dJ6_bitCount_0f7a4_40 rfl (by decide) rfl ?_
  refine e_iload_n (pc := 41) dJ6_bitCount_0f7a4_41 rfl rfl ?_
  refine e_iload_n (pc := 42) dJ6_bitCount_0f7a4_42 rfl rfl ?_
  refine e_bipush (pc := 43) dJ6_bitCount_0f7a4_43 kb_16 ?_
  refine e_iushr (pc := 45) dJ6_bitCount_0f7a4_45 ?_
  refine e_iadd (pc := 46) dJ6_bitCount_0f7a4_46 ?_
  refine e_istore_n (L' := [some (.int (((((((a0 - (((a0.toUInt32 >>> ((1 : Int32).toUInt32 &&& Int32.toUInt32 31)).toInt32) &&& (1431655765 : Int32))) &&& (858993459 : Int32)) + ((((a0 - (((a0.toUInt32 >>> ((1 : Int32).toUInt32 &&& Int32.toUInt32 31)).toInt32) &&& (1431655765 : Int32))).toUInt32 >>> ((2 : Int32).toUInt32 &&& Int32.toUInt32 31)).toInt32) &&& (858993459 : Int32))) + (((((a0 - (((a0.toUInt32 >>> ((1 : Int32).toUInt32 &&& Int32.toUInt32 31)).toInt32) &&& (1431655765 : Int32))) &&& (858993459 : Int32)) + ((((a0 - (((a0.toUInt32 >>> ((1 : Int32).toUInt32 &&& Int32.toUInt32 31)).toInt32) &&& (1431655765 : Int32))).toUInt32 >>> ((2 : Int32).toUInt32 &&& Int32.toUInt32 31)).toInt32) &&& (858993459 : Int32))).toUInt32 >>> ((4 : Int32).toUInt32 &&& Int32.toUInt32 31)).toInt32)) &&& (252645135 : Int32)) + (((((((a0 - (((a0.toUInt32 >>> ((1 : Int32).toUInt32 &&& Int32.toUInt32 31)).toInt32) &&& (1431655765 : Int32))) &&& (858993459 : Int32)) + ((((a0 - (((a0.toUInt32 >>> ((1 : Int32).toUInt32 &&& Int32.toUInt32 31)).toInt32) &&& (1431655765 : Int32))).toUInt32 >>> ((2 : Int32).toUInt32 &&& Int32.toUInt32 31)).toInt32) &&& (858993459 : Int32))) + (((((a0 - (((a0.toUInt32 >>> ((1 : Int32).toUInt32 &&& Int32.toUInt32 31)).toInt32) &&& (1431655765 : Int32))) &&& (858993459 : Int32)) + ((((a0 - (((a0.toUInt32 >>> ((1 : Int32).toUInt32 &&& Int32.toUInt32 31)).toInt32) &&& (1431655765 : Int32))).toUInt32 >>> ((2 : Int32).toUInt32 &&& Int32.toUInt32 31)).toInt32) &&& (858993459 : Int32))).toUInt32 >>> ((4 : Int32).toUInt32 &&& Int32.toUInt32 31)).toInt32)) &&& (252645135 : Int32)).toUInt32 >>> ((8 : Int32).toUInt32 &&& Int32.toUInt32 31)).toInt32)) + ((((((((a0 - (((a0.toUInt32 >>> ((1 : Int32).toUInt32 &&& Int32.toUInt32 31)).toInt32) &&& (1431655765 : Int32))) &&& (858993459 : Int32)) + ((((a0 - (((a0.toUInt32 >>> ((1 : Int32).toUInt32 &&& Int32.toUInt32 31)).toInt32) &&& (1431655765 : Int32))).toUInt32 >>> ((2 : Int32).toUInt32 &&& Int32.toUInt32 31)).toInt32) &&& (858993459 : Int32))) + (((((a0 - (((a0.toUInt32 >>> ((1 : Int32).toUInt32 &&& Int32.toUInt32 31)).toInt32) &&& (1431655765 : Int32))) &&& (858993459 : Int32)) + ((((a0 - (((a0.toUInt32 >>> ((1 : Int32).toUInt32 &&& Int32.toUInt32 31)).toInt32) &&& (1431655765 : Int32))).toUInt32 >>> ((2 : Int32).toUInt32 &&& Int32.toUInt32 31)).toInt32) &&& (858993459 : Int32))).toUInt32 >>> ((4 : Int32).toUInt32 &&& Int32.toUInt32 31)).toInt32)) &&& (252645135 : Int32)) + (((((((a0 - (((a0.toUInt32 >>> ((1 : Int32).toUInt32 &&& Int32.toUInt32 31)).toInt32) &&& (1431655765 : Int32))) &&& (858993459 : Int32)) + ((((a0 - (((a0.toUInt32 >>> ((1 : Int32).toUInt32 &&& Int32.toUInt32 31)).toInt32) &&& (1431655765 : Int32))).toUInt32 >>> ((2 : Int32).toUInt32 &&& Int32.toUInt32 31)).toInt32) &&& (858993459 : Int32))) + (((((a0 - (((a0.toUInt32 >>> ((1 : Int32).toUInt32 &&& Int32.toUInt32 31)).toInt32) &&& (1431655765 : Int32))) &&& (858993459 : Int32)) + ((((a0 - (((a0.toUInt32 >>> ((1 : Int32).toUInt32 &&& Int32.toUInt32 31)).toInt32) &&& (1431655765 : Int32))).toUInt32 >>> ((2 : Int32).toUInt32 &&& Int32.toUInt32 31)).toInt32) &&& (858993459 : Int32))).toUInt32 >>> ((4 : Int32).toUInt32 &&& Int32.toUInt32 31)).toInt32)) &&& (252645135 : Int32)).toUInt32 >>> ((8 : Int32).toUInt32 &&& Int32.toUInt32 31)).toInt32)).toUInt32 >>> ((16 : Int32).toUInt32 &&& Int32.toUInt32 31)).toInt32)))]) (pc := 47) dJ6_bitCount_0f7a4_47 rfl (by decide) rfl ?_
  refine e_iload_n (pc := 48) dJ6_bitCount_0f7a4_48 rfl rfl ?_
  refine e_bipush (pc := 49) dJ6_bitCount_0f7a4_49 kb_63 ?_
  refine e_iand (pc := 51) dJ6_bitCount_0f7a4_51 ?_
  exact e_iret (pc := 52) dJ6_bitCount_0f7a4_52 rfl rfl
def M_X0_goDays : aM := (yX0_goDays, cX0_goDays, 3, (some .int), 4, 91)
theorem ok_X0_goDays : a_okM M_X0_goDays 1 := ⟨⟨by decide +kernel, by decide +kernel⟩, by decide +kernel, a_in 313 (by decide +kernel) rfl, a_in 77 (by decide +kernel) rfl⟩
theorem dX0_goDays_0 : decode M_X0_goDays.2.1 0 = .ok (.iload_n 1, 1) := by decide +kernel
theorem dX0_goDays_1 : decode M_X0_goDays.2.1 1 = .ok (.iconst 1, 1) := by decide +kernel
theorem dX0_goDays_2 : decode M_X0_goDays.2.1 2 = .ok (.bipush 60, 2) := by decide +kernel
theorem dX0_goDays_4 : decode M_X0_goDays.2.1 4 = .ok (.invokestatic 58, 3) := by decide +kernel
theorem dX0_goDays_7 : decode M_X0_goDays.2.1 7 = .ok (.ifCond .ne 5, 3) := by decide +kernel
theorem dX0_goDays_10 : decode M_X0_goDays.2.1 10 = .ok (.iconst (-1), 1) := by decide +kernel
theorem dX0_goDays_11 : decode M_X0_goDays.2.1 11 = .ok (.ireturn, 1) := by decide +kernel
theorem dX0_goDays_12 : decode M_X0_goDays.2.1 12 = .ok (.aload_n 0, 1) := by decide +kernel
theorem dX0_goDays_13 : decode M_X0_goDays.2.1 13 = .ok (.getfield 9, 3) := by decide +kernel
theorem dX0_goDays_16 : decode M_X0_goDays.2.1 16 = .ok (.iload_n 1, 1) := by decide +kernel
theorem dX0_goDays_17 : decode M_X0_goDays.2.1 17 = .ok (.iadd, 1) := by decide +kernel
theorem dX0_goDays_18 : decode M_X0_goDays.2.1 18 = .ok (.sipush 999, 3) := by decide +kernel
theorem dX0_goDays_21 : decode M_X0_goDays.2.1 21 = .ok (.if_icmp .le 6, 3) := by decide +kernel
theorem dX0_goDays_24 : decode M_X0_goDays.2.1 24 = .ok (.bipush (-3), 2) := by decide +kernel
theorem dX0_goDays_26 : decode M_X0_goDays.2.1 26 = .ok (.ireturn, 1) := by decide +kernel
theorem dX0_goDays_27 : decode M_X0_goDays.2.1 27 = .ok (.iconst 0, 1) := by decide +kernel
theorem dX0_goDays_28 : decode M_X0_goDays.2.1 28 = .ok (.istore_n 2, 1) := by decide +kernel
theorem dX0_goDays_29 : decode M_X0_goDays.2.1 29 = .ok (.iload_n 2, 1) := by decide +kernel
theorem dX0_goDays_30 : decode M_X0_goDays.2.1 30 = .ok (.iload_n 1, 1) := by decide +kernel
theorem dX0_goDays_31 : decode M_X0_goDays.2.1 31 = .ok (.if_icmp .ge 14, 3) := by decide +kernel
theorem dX0_goDays_34 : decode M_X0_goDays.2.1 34 = .ok (.aload_n 0, 1) := by decide +kernel
theorem dX0_goDays_35 : decode M_X0_goDays.2.1 35 = .ok (.iconst 0, 1) := by decide +kernel
theorem dX0_goDays_36 : decode M_X0_goDays.2.1 36 = .ok (.invokevirtual 81, 3) := by decide +kernel
theorem dX0_goDays_39 : decode M_X0_goDays.2.1 39 = .ok (.iinc 2 1, 3) := by decide +kernel
theorem dX0_goDays_42 : decode M_X0_goDays.2.1 42 = .ok (.goto (-13), 3) := by decide +kernel
theorem dX0_goDays_45 : decode M_X0_goDays.2.1 45 = .ok (.aload_n 0, 1) := by decide +kernel
theorem dX0_goDays_46 : decode M_X0_goDays.2.1 46 = .ok (.getfield 18, 3) := by decide +kernel
theorem dX0_goDays_49 : decode M_X0_goDays.2.1 49 = .ok (.invokestatic 85, 3) := by decide +kernel
theorem dX0_goDays_52 : decode M_X0_goDays.2.1 52 = .ok (.ireturn, 1) := by decide +kernel
theorem ht_X0_85 : a_okS RX0 M_J6_bitCount_0f7a4 85 := ⟨a_in 380 (by decide +kernel) rfl, a_in 381 (by decide +kernel) rfl⟩
theorem hv_X0_81 : a_okV RX0 M_X0_passDay 81 := ⟨a_in 314 (by decide +kernel) rfl, a_in 315 (by decide +kernel) rfl, a_in 316 (by decide +kernel) rfl⟩
def c_X0_goDays_29 (a0 : Nat) (a1 : Int32) (k29 : Int32 → aW → Option (Int32 × aW)) (b2 : Int32) (w : aW) : Option (Int32 × aW) :=
  if a1 ≤ b2 then
    (gI 0 w a0 2).bind fun x4 =>
    bk (f_J6_bitCount_0f7a4 x4 w) fun x6 w5 =>
    some (x6, w5)
  else
    cV 0 w a0 (bk (f_X0_passDay a0 (0 : Int32) w) fun _ w7 =>
    k29 (b2 + 1) w7)
theorem t_X0_goDays_29 (a0 : Nat) (a1 : Int32) (k29 : Int32 → aW → Option (Int32 × aW)) (hk29 : ∀ (b2 : Int32) (w : aW), Ev rvI M_X0_goDays 29 [some (.ref a0), some (.int a1), some (.int b2)] [] w (k29 b2 w)) (b2 : Int32) (w : aW) : Ev rvI M_X0_goDays 29 [some (.ref a0), some (.int a1), some (.int b2)] [] w (c_X0_goDays_29 a0 a1 k29 b2 w) := by
  unfold c_X0_goDays_29
  refine e_iload_n (pc := 29) dX0_goDays_29 rfl rfl ?_
  refine e_iload_n (pc := 30) dX0_goDays_30 rfl rfl ?_
  refine e_icmp_ge (pc := 31) (tgt := 45) dX0_goDays_31 (by decide) (fun _ => ?_) (fun _ => ?_)
  · refine e_aload_n (pc := 45) dX0_goDays_45 rfl rfl ?_
    refine e_getI (pc := 46) dX0_goDays_46 hs_X0_18 (fun x4 => ?_)
    refine e_callS (pc := 49) (av := [.int x4]) (S := []) ok_J6_bitCount_0f7a4 ⟨Nat.le_of_ble_eq_true rfl, Nat.le_of_ble_eq_true rfl⟩ ht_X0_85 dX0_goDays_49 (s_J6_bitCount_0f7a4 x4 w) rfl rfl (Nat.le_of_ble_eq_true rfl) (fun x6 w5 => ?_)
    exact e_iret (pc := 52) dX0_goDays_52 rfl rfl
  · refine e_aload_n (pc := 34) dX0_goDays_34 rfl rfl ?_
    refine e_iconst (pc := 35) dX0_goDays_35 kc_0 ?_
    refine e_callV (pc := 36) (av := [.int (0 : Int32)]) (S := []) (c0 := 0) rfl rfl ok_X0_passDay ⟨Nat.le_of_ble_eq_true rfl, Nat.le_of_ble_eq_true rfl⟩ hv_X0_81 dX0_goDays_36 (s_X0_passDay a0 (0 : Int32) w) rfl rfl (Nat.le_of_ble_eq_true rfl) (fun _ w7 => ?_)
    refine e_iinc (L' := [some (.ref a0), some (.int a1), some (.int (b2 + 1))]) (pc := 39) (v := 1) dX0_goDays_39 (by decide) rfl kc_1 rfl ?_
    refine e_goto (pc := 42) (tgt := 29) dX0_goDays_42 (by decide) ?_
    exact hk29 (b2 + 1) w7
def f_X0_goDays (a0 : Nat) (a1 : Int32) (w : aW) : Option (Int32 × aW) :=
  bk (f_X3_within a1 (1 : Int32) (60 : Int32) w) fun x2 w1 =>
  if ¬ x2 = (0 : Int32) then
    (gI 0 w1 a0 0).bind fun x3 =>
    if (x3 + a1) ≤ (999 : Int32) then
      loop2 (c_X0_goDays_29 a0 a1) a_fuel (0 : Int32) w1
    else
      some ((-3 : Int32), w1)
  else
    some ((-1 : Int32), w1)
theorem s_X0_goDays (a0 : Nat) (a1 : Int32) (w : aW) : Sp rvI M_X0_goDays [.ref a0, .int a1] w (f_X0_goDays a0 a1 w) := by
  refine e_entry [some (.ref a0), some (.int a1), none] (by decide +kernel) (Nat.le_of_ble_eq_true rfl) (fun _ => rfl) ?_
  unfold f_X0_goDays
  refine e_iload_n (pc := 0) dX0_goDays_0 rfl rfl ?_
  refine e_iconst (pc := 1) dX0_goDays_1 kc_1 ?_
  refine e_bipush (pc := 2) dX0_goDays_2 kb_60 ?_
  refine e_callN (pc := 4) (av := [.int a1, .int (1 : Int32), .int (60 : Int32)]) (S := []) ok_X3_within ⟨Nat.le_of_ble_eq_true rfl, Nat.le_of_ble_eq_true rfl⟩ hn_X0_58 dX0_goDays_4 (s_X3_within a1 (1 : Int32) (60 : Int32) w) rfl rfl (Nat.le_of_ble_eq_true rfl) (fun x2 w1 => ?_)
  refine e_if_ne (pc := 7) (tgt := 12) dX0_goDays_7 (by decide) (fun _ => ?_) (fun _ => ?_)
  · refine e_aload_n (pc := 12) dX0_goDays_12 rfl rfl ?_
    refine e_getI (pc := 13) dX0_goDays_13 hs_X0_9 (fun x3 => ?_)
    refine e_iload_n (pc := 16) dX0_goDays_16 rfl rfl ?_
    refine e_iadd (pc := 17) dX0_goDays_17 ?_
    refine e_sipush (pc := 18) dX0_goDays_18 ks_999 ?_
    refine e_icmp_le (pc := 21) (tgt := 27) dX0_goDays_21 (by decide) (fun _ => ?_) (fun _ => ?_)
    · refine e_iconst (pc := 27) dX0_goDays_27 kc_0 ?_
      refine e_istore_n (L' := [some (.ref a0), some (.int a1), some (.int (0 : Int32))]) (pc := 28) dX0_goDays_28 rfl (by decide) rfl ?_
      exact e_loop2 (L := fun b2 => [some (.ref a0), some (.int a1), some (.int b2)]) (S := fun b2 => []) (fun kf hkf => t_X0_goDays_29 a0 a1  kf hkf) _ (0 : Int32) w1
    · refine e_bipush (pc := 24) dX0_goDays_24 kb_m3 ?_
      exact e_iret (pc := 26) dX0_goDays_26 rfl rfl
  · refine e_iconst (pc := 10) dX0_goDays_10 kc_m1 ?_
    exact e_iret (pc := 11) dX0_goDays_11 rfl rfl
def M_X0_passDays : aM := (yX0_passDays, cX0_passDays, 3, none, 4, 91)
theorem ok_X0_passDays : a_okM M_X0_passDays 1 := ⟨⟨by decide +kernel, by decide +kernel⟩, by decide +kernel, a_in 463 (by decide +kernel) rfl, a_in 77 (by decide +kernel) rfl⟩
theorem dX0_passDays_0 : decode M_X0_passDays.2.1 0 = .ok (.iconst 0, 1) := by decide +kernel
theorem dX0_passDays_1 : decode M_X0_passDays.2.1 1 = .ok (.istore_n 2, 1) := by decide +kernel
theorem dX0_passDays_2 : decode M_X0_passDays.2.1 2 = .ok (.iload_n 2, 1) := by decide +kernel
theorem dX0_passDays_3 : decode M_X0_passDays.2.1 3 = .ok (.iload_n 1, 1) := by decide +kernel
theorem dX0_passDays_4 : decode M_X0_passDays.2.1 4 = .ok (.if_icmp .ge 14, 3) := by decide +kernel
theorem dX0_passDays_7 : decode M_X0_passDays.2.1 7 = .ok (.aload_n 0, 1) := by decide +kernel
theorem dX0_passDays_8 : decode M_X0_passDays.2.1 8 = .ok (.iconst 0, 1) := by decide +kernel
theorem dX0_passDays_9 : decode M_X0_passDays.2.1 9 = .ok (.invokevirtual 81, 3) := by decide +kernel
theorem dX0_passDays_12 : decode M_X0_passDays.2.1 12 = .ok (.iinc 2 1, 3) := by decide +kernel
theorem dX0_passDays_15 : decode M_X0_passDays.2.1 15 = .ok (.goto (-13), 3) := by decide +kernel
theorem dX0_passDays_18 : decode M_X0_passDays.2.1 18 = .ok (.return_, 1) := by decide +kernel
def c_X0_passDays_2 (a0 : Nat) (a1 : Int32) (k2 : Int32 → aW → Option (Unit × aW)) (b2 : Int32) (w : aW) : Option (Unit × aW) :=
  if a1 ≤ b2 then
    some ((), w)
  else
    cV 0 w a0 (bk (f_X0_passDay a0 (0 : Int32) w) fun _ w1 =>
    k2 (b2 + 1) w1)
theorem t_X0_passDays_2 (a0 : Nat) (a1 : Int32) (k2 : Int32 → aW → Option (Unit × aW)) (hk2 : ∀ (b2 : Int32) (w : aW), Ev rvV M_X0_passDays 2 [some (.ref a0), some (.int a1), some (.int b2)] [] w (k2 b2 w)) (b2 : Int32) (w : aW) : Ev rvV M_X0_passDays 2 [some (.ref a0), some (.int a1), some (.int b2)] [] w (c_X0_passDays_2 a0 a1 k2 b2 w) := by
  unfold c_X0_passDays_2
  refine e_iload_n (pc := 2) dX0_passDays_2 rfl rfl ?_
  refine e_iload_n (pc := 3) dX0_passDays_3 rfl rfl ?_
  refine e_icmp_ge (pc := 4) (tgt := 18) dX0_passDays_4 (by decide) (fun _ => ?_) (fun _ => ?_)
  · exact e_vret (pc := 18) dX0_passDays_18 rfl
  · refine e_aload_n (pc := 7) dX0_passDays_7 rfl rfl ?_
    refine e_iconst (pc := 8) dX0_passDays_8 kc_0 ?_
    refine e_callV (pc := 9) (av := [.int (0 : Int32)]) (S := []) (c0 := 0) rfl rfl ok_X0_passDay ⟨Nat.le_of_ble_eq_true rfl, Nat.le_of_ble_eq_true rfl⟩ hv_X0_81 dX0_passDays_9 (s_X0_passDay a0 (0 : Int32) w) rfl rfl (Nat.le_of_ble_eq_true rfl) (fun _ w1 => ?_)
    refine e_iinc (L' := [some (.ref a0), some (.int a1), some (.int (b2 + 1))]) (pc := 12) (v := 1) dX0_passDays_12 (by decide) rfl kc_1 rfl ?_
    refine e_goto (pc := 15) (tgt := 2) dX0_passDays_15 (by decide) ?_
    exact hk2 (b2 + 1) w1
def f_X0_passDays (a0 : Nat) (a1 : Int32) (w : aW) : Option (Unit × aW) :=
  loop2 (c_X0_passDays_2 a0 a1) a_fuel (0 : Int32) w
theorem s_X0_passDays (a0 : Nat) (a1 : Int32) (w : aW) : Sp rvV M_X0_passDays [.ref a0, .int a1] w (f_X0_passDays a0 a1 w) := by
  refine e_entry [some (.ref a0), some (.int a1), none] (by decide +kernel) (Nat.le_of_ble_eq_true rfl) (fun _ => rfl) ?_
  unfold f_X0_passDays
  refine e_iconst (pc := 0) dX0_passDays_0 kc_0 ?_
  refine e_istore_n (L' := [some (.ref a0), some (.int a1), some (.int (0 : Int32))]) (pc := 1) dX0_passDays_1 rfl (by decide) rfl ?_
  exact e_loop2 (L := fun b2 => [some (.ref a0), some (.int a1), some (.int b2)]) (S := fun b2 => []) (fun kf hkf => t_X0_passDays_2 a0 a1  kf hkf) _ (0 : Int32) w
def M_X0_keepsAlive : aM := (yX0_keepsAlive, cX0_keepsAlive, 4, (some .boolean), 4, 91)
theorem ok_X0_keepsAlive : a_okM M_X0_keepsAlive 2 := ⟨⟨by decide +kernel, by decide +kernel⟩, by decide +kernel, a_in 528 (by decide +kernel) rfl, a_in 77 (by decide +kernel) rfl⟩
theorem dX0_keepsAlive_0 : decode M_X0_keepsAlive.2.1 0 = .ok (.iconst 0, 1) := by decide +kernel
theorem dX0_keepsAlive_1 : decode M_X0_keepsAlive.2.1 1 = .ok (.istore_n 3, 1) := by decide +kernel
theorem dX0_keepsAlive_2 : decode M_X0_keepsAlive.2.1 2 = .ok (.iload_n 3, 1) := by decide +kernel
theorem dX0_keepsAlive_3 : decode M_X0_keepsAlive.2.1 3 = .ok (.iload_n 2, 1) := by decide +kernel
theorem dX0_keepsAlive_4 : decode M_X0_keepsAlive.2.1 4 = .ok (.if_icmp .ge 27, 3) := by decide +kernel
theorem dX0_keepsAlive_7 : decode M_X0_keepsAlive.2.1 7 = .ok (.aload_n 0, 1) := by decide +kernel
theorem dX0_keepsAlive_8 : decode M_X0_keepsAlive.2.1 8 = .ok (.iconst 0, 1) := by decide +kernel
theorem dX0_keepsAlive_9 : decode M_X0_keepsAlive.2.1 9 = .ok (.invokevirtual 81, 3) := by decide +kernel
theorem dX0_keepsAlive_12 : decode M_X0_keepsAlive.2.1 12 = .ok (.iload_n 1, 1) := by decide +kernel
theorem dX0_keepsAlive_13 : decode M_X0_keepsAlive.2.1 13 = .ok (.aload_n 0, 1) := by decide +kernel
theorem dX0_keepsAlive_14 : decode M_X0_keepsAlive.2.1 14 = .ok (.getfield 18, 3) := by decide +kernel
theorem dX0_keepsAlive_17 : decode M_X0_keepsAlive.2.1 17 = .ok (.iconst (-1), 1) := by decide +kernel
theorem dX0_keepsAlive_18 : decode M_X0_keepsAlive.2.1 18 = .ok (.ixor, 1) := by decide +kernel
theorem dX0_keepsAlive_19 : decode M_X0_keepsAlive.2.1 19 = .ok (.iand, 1) := by decide +kernel
theorem dX0_keepsAlive_20 : decode M_X0_keepsAlive.2.1 20 = .ok (.ifCond .eq 5, 3) := by decide +kernel
theorem dX0_keepsAlive_23 : decode M_X0_keepsAlive.2.1 23 = .ok (.iconst 0, 1) := by decide +kernel
theorem dX0_keepsAlive_24 : decode M_X0_keepsAlive.2.1 24 = .ok (.ireturn, 1) := by decide +kernel
theorem dX0_keepsAlive_25 : decode M_X0_keepsAlive.2.1 25 = .ok (.iinc 3 1, 3) := by decide +kernel
theorem dX0_keepsAlive_28 : decode M_X0_keepsAlive.2.1 28 = .ok (.goto (-26), 3) := by decide +kernel
theorem dX0_keepsAlive_31 : decode M_X0_keepsAlive.2.1 31 = .ok (.iconst 1, 1) := by decide +kernel
theorem dX0_keepsAlive_32 : decode M_X0_keepsAlive.2.1 32 = .ok (.ireturn, 1) := by decide +kernel
def c_X0_keepsAlive_2 (a0 : Nat) (a1 : Int32) (a2 : Int32) (k2 : Int32 → aW → Option (Int32 × aW)) (b3 : Int32) (w : aW) : Option (Int32 × aW) :=
  if a2 ≤ b3 then
    some ((1 : Int32), w)
  else
    cV 0 w a0 (bk (f_X0_passDay a0 (0 : Int32) w) fun _ w1 =>
    (gI 0 w1 a0 2).bind fun x2 =>
    if (a1 &&& (x2 ^^^ (-1 : Int32))) = (0 : Int32) then
      k2 (b3 + 1) w1
    else
      some ((0 : Int32), w1))
theorem t_X0_keepsAlive_2 (a0 : Nat) (a1 : Int32) (a2 : Int32) (k2 : Int32 → aW → Option (Int32 × aW)) (hk2 : ∀ (b3 : Int32) (w : aW), Ev rvI M_X0_keepsAlive 2 [some (.ref a0), some (.int a1), some (.int a2), some (.int b3)] [] w (k2 b3 w)) (b3 : Int32) (w : aW) : Ev rvI M_X0_keepsAlive 2 [some (.ref a0), some (.int a1), some (.int a2), some (.int b3)] [] w (c_X0_keepsAlive_2 a0 a1 a2 k2 b3 w) := by
  unfold c_X0_keepsAlive_2
  refine e_iload_n (pc := 2) dX0_keepsAlive_2 rfl rfl ?_
  refine e_iload_n (pc := 3) dX0_keepsAlive_3 rfl rfl ?_
  refine e_icmp_ge (pc := 4) (tgt := 31) dX0_keepsAlive_4 (by decide) (fun _ => ?_) (fun _ => ?_)
  · refine e_iconst (pc := 31) dX0_keepsAlive_31 kc_1 ?_
    exact e_iret (pc := 32) dX0_keepsAlive_32 rfl (a_nb (by decide))
  · refine e_aload_n (pc := 7) dX0_keepsAlive_7 rfl rfl ?_
    refine e_iconst (pc := 8) dX0_keepsAlive_8 kc_0 ?_
    refine e_callV (pc := 9) (av := [.int (0 : Int32)]) (S := []) (c0 := 0) rfl rfl ok_X0_passDay ⟨Nat.le_of_ble_eq_true rfl, Nat.le_of_ble_eq_true rfl⟩ hv_X0_81 dX0_keepsAlive_9 (s_X0_passDay a0 (0 : Int32) w) rfl rfl (Nat.le_of_ble_eq_true rfl) (fun _ w1 => ?_)
    refine e_iload_n (pc := 12) dX0_keepsAlive_12 rfl rfl ?_
    refine e_aload_n (pc := 13) dX0_keepsAlive_13 rfl rfl ?_
    refine e_getI (pc := 14) dX0_keepsAlive_14 hs_X0_18 (fun x2 => ?_)
    refine e_iconst (pc := 17) dX0_keepsAlive_17 kc_m1 ?_
    refine e_ixor (pc := 18) dX0_keepsAlive_18 ?_
    refine e_iand (pc := 19) dX0_keepsAlive_19 ?_
    refine e_if_eq (pc := 20) (tgt := 25) dX0_keepsAlive_20 (by decide) (fun _ => ?_) (fun _ => ?_)
    · refine e_iinc (L' := [some (.ref a0), some (.int a1), some (.int a2), some (.int (b3 + 1))]) (pc := 25) (v := 1) dX0_keepsAlive_25 (by decide) rfl kc_1 rfl ?_
      refine e_goto (pc := 28) (tgt := 2) dX0_keepsAlive_28 (by decide) ?_
      exact hk2 (b3 + 1) w1
    · refine e_iconst (pc := 23) dX0_keepsAlive_23 kc_0 ?_
      exact e_iret (pc := 24) dX0_keepsAlive_24 rfl (a_nb (by decide))
def f_X0_keepsAlive (a0 : Nat) (a1 : Int32) (a2 : Int32) (w : aW) : Option (Int32 × aW) :=
  loop2 (c_X0_keepsAlive_2 a0 a1 a2) a_fuel (0 : Int32) w
theorem s_X0_keepsAlive (a0 : Nat) (a1 : Int32) (a2 : Int32) (w : aW) : Sp rvI M_X0_keepsAlive [.ref a0, .int a1, .int a2] w (f_X0_keepsAlive a0 a1 a2 w) := by
  refine e_entry [some (.ref a0), some (.int a1), some (.int a2), none] (by decide +kernel) (Nat.le_of_ble_eq_true rfl) (fun _ => rfl) ?_
  unfold f_X0_keepsAlive
  refine e_iconst (pc := 0) dX0_keepsAlive_0 kc_0 ?_
  refine e_istore_n (L' := [some (.ref a0), some (.int a1), some (.int a2), some (.int (0 : Int32))]) (pc := 1) dX0_keepsAlive_1 rfl (by decide) rfl ?_
  exact e_loop2 (L := fun b3 => [some (.ref a0), some (.int a1), some (.int a2), some (.int b3)]) (S := fun b3 => []) (fun kf hkf => t_X0_keepsAlive_2 a0 a1 a2  kf hkf) _ (0 : Int32) w
def M_X0_toldOfBeast : aM := (yX0_toldOfBeast, cX0_toldOfBeast, 3, (some .int), 3, 69)
theorem ok_X0_toldOfBeast : a_okM M_X0_toldOfBeast 2 := ⟨⟨by decide +kernel, by decide +kernel⟩, by decide +kernel, a_in 397 (by decide +kernel) rfl, a_in 77 (by decide +kernel) rfl⟩
theorem dX0_toldOfBeast_0 : decode M_X0_toldOfBeast.2.1 0 = .ok (.iload_n 2, 1) := by decide +kernel
theorem dX0_toldOfBeast_1 : decode M_X0_toldOfBeast.2.1 1 = .ok (.tableswitch 144 0 8 #[51, 58, 65, 72, 79, 86, 100, 116, 132], 51) := by decide +kernel
theorem dX0_toldOfBeast_52 : decode M_X0_toldOfBeast.2.1 52 = .ok (.aload_n 0, 1) := by decide +kernel
theorem dX0_toldOfBeast_53 : decode M_X0_toldOfBeast.2.1 53 = .ok (.getfield 24, 3) := by decide +kernel
theorem dX0_toldOfBeast_56 : decode M_X0_toldOfBeast.2.1 56 = .ok (.iload_n 1, 1) := by decide +kernel
theorem dX0_toldOfBeast_57 : decode M_X0_toldOfBeast.2.1 57 = .ok (.iaload, 1) := by decide +kernel
theorem dX0_toldOfBeast_58 : decode M_X0_toldOfBeast.2.1 58 = .ok (.ireturn, 1) := by decide +kernel
theorem dX0_toldOfBeast_59 : decode M_X0_toldOfBeast.2.1 59 = .ok (.aload_n 0, 1) := by decide +kernel
theorem dX0_toldOfBeast_60 : decode M_X0_toldOfBeast.2.1 60 = .ok (.getfield 28, 3) := by decide +kernel
theorem dX0_toldOfBeast_63 : decode M_X0_toldOfBeast.2.1 63 = .ok (.iload_n 1, 1) := by decide +kernel
theorem dX0_toldOfBeast_64 : decode M_X0_toldOfBeast.2.1 64 = .ok (.iaload, 1) := by decide +kernel
theorem dX0_toldOfBeast_65 : decode M_X0_toldOfBeast.2.1 65 = .ok (.ireturn, 1) := by decide +kernel
theorem dX0_toldOfBeast_66 : decode M_X0_toldOfBeast.2.1 66 = .ok (.aload_n 0, 1) := by decide +kernel
theorem dX0_toldOfBeast_67 : decode M_X0_toldOfBeast.2.1 67 = .ok (.getfield 31, 3) := by decide +kernel
theorem dX0_toldOfBeast_70 : decode M_X0_toldOfBeast.2.1 70 = .ok (.iload_n 1, 1) := by decide +kernel
theorem dX0_toldOfBeast_71 : decode M_X0_toldOfBeast.2.1 71 = .ok (.iaload, 1) := by decide +kernel
theorem dX0_toldOfBeast_72 : decode M_X0_toldOfBeast.2.1 72 = .ok (.ireturn, 1) := by decide +kernel
theorem dX0_toldOfBeast_73 : decode M_X0_toldOfBeast.2.1 73 = .ok (.aload_n 0, 1) := by decide +kernel
theorem dX0_toldOfBeast_74 : decode M_X0_toldOfBeast.2.1 74 = .ok (.getfield 34, 3) := by decide +kernel
theorem dX0_toldOfBeast_77 : decode M_X0_toldOfBeast.2.1 77 = .ok (.iload_n 1, 1) := by decide +kernel
theorem dX0_toldOfBeast_78 : decode M_X0_toldOfBeast.2.1 78 = .ok (.iaload, 1) := by decide +kernel
theorem dX0_toldOfBeast_79 : decode M_X0_toldOfBeast.2.1 79 = .ok (.ireturn, 1) := by decide +kernel
theorem dX0_toldOfBeast_80 : decode M_X0_toldOfBeast.2.1 80 = .ok (.aload_n 0, 1) := by decide +kernel
theorem dX0_toldOfBeast_81 : decode M_X0_toldOfBeast.2.1 81 = .ok (.getfield 37, 3) := by decide +kernel
theorem dX0_toldOfBeast_84 : decode M_X0_toldOfBeast.2.1 84 = .ok (.iload_n 1, 1) := by decide +kernel
theorem dX0_toldOfBeast_85 : decode M_X0_toldOfBeast.2.1 85 = .ok (.iaload, 1) := by decide +kernel
theorem dX0_toldOfBeast_86 : decode M_X0_toldOfBeast.2.1 86 = .ok (.ireturn, 1) := by decide +kernel
theorem dX0_toldOfBeast_87 : decode M_X0_toldOfBeast.2.1 87 = .ok (.aload_n 0, 1) := by decide +kernel
theorem dX0_toldOfBeast_88 : decode M_X0_toldOfBeast.2.1 88 = .ok (.iload_n 1, 1) := by decide +kernel
theorem dX0_toldOfBeast_89 : decode M_X0_toldOfBeast.2.1 89 = .ok (.invokevirtual 75, 3) := by decide +kernel
theorem dX0_toldOfBeast_92 : decode M_X0_toldOfBeast.2.1 92 = .ok (.ifCond .eq 7, 3) := by decide +kernel
theorem dX0_toldOfBeast_95 : decode M_X0_toldOfBeast.2.1 95 = .ok (.iconst 1, 1) := by decide +kernel
theorem dX0_toldOfBeast_96 : decode M_X0_toldOfBeast.2.1 96 = .ok (.goto 4, 3) := by decide +kernel
theorem dX0_toldOfBeast_99 : decode M_X0_toldOfBeast.2.1 99 = .ok (.iconst 0, 1) := by decide +kernel
theorem dX0_toldOfBeast_100 : decode M_X0_toldOfBeast.2.1 100 = .ok (.ireturn, 1) := by decide +kernel
theorem dX0_toldOfBeast_101 : decode M_X0_toldOfBeast.2.1 101 = .ok (.aload_n 0, 1) := by decide +kernel
theorem dX0_toldOfBeast_102 : decode M_X0_toldOfBeast.2.1 102 = .ok (.getfield 24, 3) := by decide +kernel
theorem dX0_toldOfBeast_105 : decode M_X0_toldOfBeast.2.1 105 = .ok (.iload_n 1, 1) := by decide +kernel
theorem dX0_toldOfBeast_106 : decode M_X0_toldOfBeast.2.1 106 = .ok (.iaload, 1) := by decide +kernel
theorem dX0_toldOfBeast_107 : decode M_X0_toldOfBeast.2.1 107 = .ok (.aload_n 0, 1) := by decide +kernel
theorem dX0_toldOfBeast_108 : decode M_X0_toldOfBeast.2.1 108 = .ok (.getfield 28, 3) := by decide +kernel
theorem dX0_toldOfBeast_111 : decode M_X0_toldOfBeast.2.1 111 = .ok (.iload_n 1, 1) := by decide +kernel
theorem dX0_toldOfBeast_112 : decode M_X0_toldOfBeast.2.1 112 = .ok (.iaload, 1) := by decide +kernel
theorem dX0_toldOfBeast_113 : decode M_X0_toldOfBeast.2.1 113 = .ok (.invokestatic 141, 3) := by decide +kernel
theorem dX0_toldOfBeast_116 : decode M_X0_toldOfBeast.2.1 116 = .ok (.ireturn, 1) := by decide +kernel
theorem dX0_toldOfBeast_117 : decode M_X0_toldOfBeast.2.1 117 = .ok (.aload_n 0, 1) := by decide +kernel
theorem dX0_toldOfBeast_118 : decode M_X0_toldOfBeast.2.1 118 = .ok (.getfield 24, 3) := by decide +kernel
theorem dX0_toldOfBeast_121 : decode M_X0_toldOfBeast.2.1 121 = .ok (.iload_n 1, 1) := by decide +kernel
theorem dX0_toldOfBeast_122 : decode M_X0_toldOfBeast.2.1 122 = .ok (.iaload, 1) := by decide +kernel
theorem dX0_toldOfBeast_123 : decode M_X0_toldOfBeast.2.1 123 = .ok (.aload_n 0, 1) := by decide +kernel
theorem dX0_toldOfBeast_124 : decode M_X0_toldOfBeast.2.1 124 = .ok (.getfield 28, 3) := by decide +kernel
theorem dX0_toldOfBeast_127 : decode M_X0_toldOfBeast.2.1 127 = .ok (.iload_n 1, 1) := by decide +kernel
theorem dX0_toldOfBeast_128 : decode M_X0_toldOfBeast.2.1 128 = .ok (.iaload, 1) := by decide +kernel
theorem dX0_toldOfBeast_129 : decode M_X0_toldOfBeast.2.1 129 = .ok (.invokestatic 131, 3) := by decide +kernel
theorem dX0_toldOfBeast_132 : decode M_X0_toldOfBeast.2.1 132 = .ok (.ireturn, 1) := by decide +kernel
theorem dX0_toldOfBeast_133 : decode M_X0_toldOfBeast.2.1 133 = .ok (.aload_n 0, 1) := by decide +kernel
theorem dX0_toldOfBeast_134 : decode M_X0_toldOfBeast.2.1 134 = .ok (.iload_n 1, 1) := by decide +kernel
theorem dX0_toldOfBeast_135 : decode M_X0_toldOfBeast.2.1 135 = .ok (.aload_n 0, 1) := by decide +kernel
theorem dX0_toldOfBeast_136 : decode M_X0_toldOfBeast.2.1 136 = .ok (.getfield 9, 3) := by decide +kernel
theorem dX0_toldOfBeast_139 : decode M_X0_toldOfBeast.2.1 139 = .ok (.iconst 1, 1) := by decide +kernel
theorem dX0_toldOfBeast_140 : decode M_X0_toldOfBeast.2.1 140 = .ok (.iadd, 1) := by decide +kernel
theorem dX0_toldOfBeast_141 : decode M_X0_toldOfBeast.2.1 141 = .ok (.invokevirtual 95, 3) := by decide +kernel
theorem dX0_toldOfBeast_144 : decode M_X0_toldOfBeast.2.1 144 = .ok (.ireturn, 1) := by decide +kernel
theorem dX0_toldOfBeast_145 : decode M_X0_toldOfBeast.2.1 145 = .ok (.iconst (-1), 1) := by decide +kernel
theorem dX0_toldOfBeast_146 : decode M_X0_toldOfBeast.2.1 146 = .ok (.ireturn, 1) := by decide +kernel
def f_X0_toldOfBeast (a0 : Nat) (a1 : Int32) (a2 : Int32) (w : aW) : Option (Int32 × aW) :=
  if a2 = (0 : Int32) then
    (gR 0 w a0 4).bind fun r2 =>
    (gA w r2 a1).bind fun x3 =>
    some (x3, w)
  else
    if a2 = (1 : Int32) then
      (gR 0 w a0 5).bind fun r5 =>
      (gA w r5 a1).bind fun x6 =>
      some (x6, w)
    else
      if a2 = (2 : Int32) then
        (gR 0 w a0 6).bind fun r8 =>
        (gA w r8 a1).bind fun x9 =>
        some (x9, w)
      else
        if a2 = (3 : Int32) then
          (gR 0 w a0 7).bind fun r11 =>
          (gA w r11 a1).bind fun x12 =>
          some (x12, w)
        else
          if a2 = (4 : Int32) then
            (gR 0 w a0 8).bind fun r14 =>
            (gA w r14 a1).bind fun x15 =>
            some (x15, w)
          else
            if a2 = (5 : Int32) then
              cV 0 w a0 (bk (f_X0_isAlive a0 a1 w) fun x18 w17 =>
              if x18 = (0 : Int32) then
                some ((0 : Int32), w17)
              else
                some ((1 : Int32), w17))
            else
              if a2 = (6 : Int32) then
                (gR 0 w a0 4).bind fun r20 =>
                (gA w r20 a1).bind fun x21 =>
                (gR 0 w a0 5).bind fun r22 =>
                (gA w r22 a1).bind fun x23 =>
                bk (f_X2_needOf x21 x23 w) fun x25 w24 =>
                some (x25, w24)
              else
                if a2 = (7 : Int32) then
                  (gR 0 w a0 4).bind fun r27 =>
                  (gA w r27 a1).bind fun x28 =>
                  (gR 0 w a0 5).bind fun r29 =>
                  (gA w r29 a1).bind fun x30 =>
                  bk (f_X2_workOf x28 x30 w) fun x32 w31 =>
                  some (x32, w31)
                else
                  if a2 = (8 : Int32) then
                    (gI 0 w a0 0).bind fun x34 =>
                    cV 0 w a0 (bk (f_X0_wantedPlace a0 a1 (x34 + (1 : Int32)) w) fun x36 w35 =>
                    some (x36, w35))
                  else
                    some ((-1 : Int32), w)
theorem s_X0_toldOfBeast (a0 : Nat) (a1 : Int32) (a2 : Int32) (w : aW) : Sp rvI M_X0_toldOfBeast [.ref a0, .int a1, .int a2] w (f_X0_toldOfBeast a0 a1 a2 w) := by
  refine e_entry [some (.ref a0), some (.int a1), some (.int a2)] (by decide +kernel) (Nat.le_of_ble_eq_true rfl) (fun _ => rfl) ?_
  unfold f_X0_toldOfBeast
  refine e_iload_n (pc := 0) dX0_toldOfBeast_0 rfl rfl ?_
  refine e_ite (fun h1 => ?_) (fun h1 => ?_)
  · refine e_tabIn (pc := 1) (v := 0) (j := 0) (tgt := 52) dX0_toldOfBeast_1 h1 rfl (by decide) (by decide) rfl (by decide) ?_
    refine e_aload_n (pc := 52) dX0_toldOfBeast_52 rfl rfl ?_
    refine e_getR (pc := 53) dX0_toldOfBeast_53 hs_X0_24 (fun r2 => ?_)
    refine e_iload_n (pc := 56) dX0_toldOfBeast_56 rfl rfl ?_
    refine e_iald (pc := 57) dX0_toldOfBeast_57 (fun x3 => ?_)
    exact e_iret (pc := 58) dX0_toldOfBeast_58 rfl rfl
  · refine e_ite (fun h4 => ?_) (fun h4 => ?_)
    · refine e_tabIn (pc := 1) (v := 1) (j := 1) (tgt := 59) dX0_toldOfBeast_1 h4 rfl (by decide) (by decide) rfl (by decide) ?_
      refine e_aload_n (pc := 59) dX0_toldOfBeast_59 rfl rfl ?_
      refine e_getR (pc := 60) dX0_toldOfBeast_60 hs_X0_28 (fun r5 => ?_)
      refine e_iload_n (pc := 63) dX0_toldOfBeast_63 rfl rfl ?_
      refine e_iald (pc := 64) dX0_toldOfBeast_64 (fun x6 => ?_)
      exact e_iret (pc := 65) dX0_toldOfBeast_65 rfl rfl
    · refine e_ite (fun h7 => ?_) (fun h7 => ?_)
      · refine e_tabIn (pc := 1) (v := 2) (j := 2) (tgt := 66) dX0_toldOfBeast_1 h7 rfl (by decide) (by decide) rfl (by decide) ?_
        refine e_aload_n (pc := 66) dX0_toldOfBeast_66 rfl rfl ?_
        refine e_getR (pc := 67) dX0_toldOfBeast_67 hs_X0_31 (fun r8 => ?_)
        refine e_iload_n (pc := 70) dX0_toldOfBeast_70 rfl rfl ?_
        refine e_iald (pc := 71) dX0_toldOfBeast_71 (fun x9 => ?_)
        exact e_iret (pc := 72) dX0_toldOfBeast_72 rfl rfl
      · refine e_ite (fun h10 => ?_) (fun h10 => ?_)
        · refine e_tabIn (pc := 1) (v := 3) (j := 3) (tgt := 73) dX0_toldOfBeast_1 h10 rfl (by decide) (by decide) rfl (by decide) ?_
          refine e_aload_n (pc := 73) dX0_toldOfBeast_73 rfl rfl ?_
          refine e_getR (pc := 74) dX0_toldOfBeast_74 hs_X0_34 (fun r11 => ?_)
          refine e_iload_n (pc := 77) dX0_toldOfBeast_77 rfl rfl ?_
          refine e_iald (pc := 78) dX0_toldOfBeast_78 (fun x12 => ?_)
          exact e_iret (pc := 79) dX0_toldOfBeast_79 rfl rfl
        · refine e_ite (fun h13 => ?_) (fun h13 => ?_)
          · refine e_tabIn (pc := 1) (v := 4) (j := 4) (tgt := 80) dX0_toldOfBeast_1 h13 rfl (by decide) (by decide) rfl (by decide) ?_
            refine e_aload_n (pc := 80) dX0_toldOfBeast_80 rfl rfl ?_
            refine e_getR (pc := 81) dX0_toldOfBeast_81 hs_X0_37 (fun r14 => ?_)
            refine e_iload_n (pc := 84) dX0_toldOfBeast_84 rfl rfl ?_
            refine e_iald (pc := 85) dX0_toldOfBeast_85 (fun x15 => ?_)
            exact e_iret (pc := 86) dX0_toldOfBeast_86 rfl rfl
          · refine e_ite (fun h16 => ?_) (fun h16 => ?_)
            · refine e_tabIn (pc := 1) (v := 5) (j := 5) (tgt := 87) dX0_toldOfBeast_1 h16 rfl (by decide) (by decide) rfl (by decide) ?_
              refine e_aload_n (pc := 87) dX0_toldOfBeast_87 rfl rfl ?_
              refine e_iload_n (pc := 88) dX0_toldOfBeast_88 rfl rfl ?_
              refine e_callV (pc := 89) (av := [.int a1]) (S := []) (c0 := 0) rfl rfl ok_X0_isAlive ⟨Nat.le_of_ble_eq_true rfl, Nat.le_of_ble_eq_true rfl⟩ hv_X0_75 dX0_toldOfBeast_89 (s_X0_isAlive a0 a1 w) rfl rfl (Nat.le_of_ble_eq_true rfl) (fun x18 w17 => ?_)
              refine e_if_eq (pc := 92) (tgt := 99) dX0_toldOfBeast_92 (by decide) (fun _ => ?_) (fun _ => ?_)
              · refine e_iconst (pc := 99) dX0_toldOfBeast_99 kc_0 ?_
                exact e_iret (pc := 100) dX0_toldOfBeast_100 rfl rfl
              · refine e_iconst (pc := 95) dX0_toldOfBeast_95 kc_1 ?_
                refine e_goto (pc := 96) (tgt := 100) dX0_toldOfBeast_96 (by decide) ?_
                exact e_iret (pc := 100) dX0_toldOfBeast_100 rfl rfl
            · refine e_ite (fun h19 => ?_) (fun h19 => ?_)
              · refine e_tabIn (pc := 1) (v := 6) (j := 6) (tgt := 101) dX0_toldOfBeast_1 h19 rfl (by decide) (by decide) rfl (by decide) ?_
                refine e_aload_n (pc := 101) dX0_toldOfBeast_101 rfl rfl ?_
                refine e_getR (pc := 102) dX0_toldOfBeast_102 hs_X0_24 (fun r20 => ?_)
                refine e_iload_n (pc := 105) dX0_toldOfBeast_105 rfl rfl ?_
                refine e_iald (pc := 106) dX0_toldOfBeast_106 (fun x21 => ?_)
                refine e_aload_n (pc := 107) dX0_toldOfBeast_107 rfl rfl ?_
                refine e_getR (pc := 108) dX0_toldOfBeast_108 hs_X0_28 (fun r22 => ?_)
                refine e_iload_n (pc := 111) dX0_toldOfBeast_111 rfl rfl ?_
                refine e_iald (pc := 112) dX0_toldOfBeast_112 (fun x23 => ?_)
                refine e_callS (pc := 113) (av := [.int x21, .int x23]) (S := []) ok_X2_needOf ⟨Nat.le_of_ble_eq_true rfl, Nat.le_of_ble_eq_true rfl⟩ ht_X0_141 dX0_toldOfBeast_113 (s_X2_needOf x21 x23 w) rfl rfl (Nat.le_of_ble_eq_true rfl) (fun x25 w24 => ?_)
                exact e_iret (pc := 116) dX0_toldOfBeast_116 rfl rfl
              · refine e_ite (fun h26 => ?_) (fun h26 => ?_)
                · refine e_tabIn (pc := 1) (v := 7) (j := 7) (tgt := 117) dX0_toldOfBeast_1 h26 rfl (by decide) (by decide) rfl (by decide) ?_
                  refine e_aload_n (pc := 117) dX0_toldOfBeast_117 rfl rfl ?_
                  refine e_getR (pc := 118) dX0_toldOfBeast_118 hs_X0_24 (fun r27 => ?_)
                  refine e_iload_n (pc := 121) dX0_toldOfBeast_121 rfl rfl ?_
                  refine e_iald (pc := 122) dX0_toldOfBeast_122 (fun x28 => ?_)
                  refine e_aload_n (pc := 123) dX0_toldOfBeast_123 rfl rfl ?_
                  refine e_getR (pc := 124) dX0_toldOfBeast_124 hs_X0_28 (fun r29 => ?_)
                  refine e_iload_n (pc := 127) dX0_toldOfBeast_127 rfl rfl ?_
                  refine e_iald (pc := 128) dX0_toldOfBeast_128 (fun x30 => ?_)
                  refine e_callS (pc := 129) (av := [.int x28, .int x30]) (S := []) ok_X2_workOf ⟨Nat.le_of_ble_eq_true rfl, Nat.le_of_ble_eq_true rfl⟩ ht_X0_131 dX0_toldOfBeast_129 (s_X2_workOf x28 x30 w) rfl rfl (Nat.le_of_ble_eq_true rfl) (fun x32 w31 => ?_)
                  exact e_iret (pc := 132) dX0_toldOfBeast_132 rfl rfl
                · refine e_ite (fun h33 => ?_) (fun h33 => ?_)
                  · refine e_tabIn (pc := 1) (v := 8) (j := 8) (tgt := 133) dX0_toldOfBeast_1 h33 rfl (by decide) (by decide) rfl (by decide) ?_
                    refine e_aload_n (pc := 133) dX0_toldOfBeast_133 rfl rfl ?_
                    refine e_iload_n (pc := 134) dX0_toldOfBeast_134 rfl rfl ?_
                    refine e_aload_n (pc := 135) dX0_toldOfBeast_135 rfl rfl ?_
                    refine e_getI (pc := 136) dX0_toldOfBeast_136 hs_X0_9 (fun x34 => ?_)
                    refine e_iconst (pc := 139) dX0_toldOfBeast_139 kc_1 ?_
                    refine e_iadd (pc := 140) dX0_toldOfBeast_140 ?_
                    refine e_callV (pc := 141) (av := [.int a1, .int (x34 + (1 : Int32))]) (S := []) (c0 := 0) rfl rfl ok_X0_wantedPlace ⟨Nat.le_of_ble_eq_true rfl, Nat.le_of_ble_eq_true rfl⟩ hv_X0_95 dX0_toldOfBeast_141 (s_X0_wantedPlace a0 a1 (x34 + (1 : Int32)) w) rfl rfl (Nat.le_of_ble_eq_true rfl) (fun x36 w35 => ?_)
                    exact e_iret (pc := 144) dX0_toldOfBeast_144 rfl rfl
                  · refine e_tabOut (pc := 1) (tgt := 145) dX0_toldOfBeast_1 (by have z0 := lv_neT h1 (show (0 : Int32).toInt = 0 from rfl); have z1 := lv_neT h4 (show (1 : Int32).toInt = 1 from rfl); have z2 := lv_neT h7 (show (2 : Int32).toInt = 2 from rfl); have z3 := lv_neT h10 (show (3 : Int32).toInt = 3 from rfl); have z4 := lv_neT h13 (show (4 : Int32).toInt = 4 from rfl); have z5 := lv_neT h16 (show (5 : Int32).toInt = 5 from rfl); have z6 := lv_neT h19 (show (6 : Int32).toInt = 6 from rfl); have z7 := lv_neT h26 (show (7 : Int32).toInt = 7 from rfl); have z8 := lv_neT h33 (show (8 : Int32).toInt = 8 from rfl); omega) (by decide) ?_
                    refine e_iconst (pc := 145) dX0_toldOfBeast_145 kc_m1 ?_
                    exact e_iret (pc := 146) dX0_toldOfBeast_146 rfl rfl
def M_X0_calledBy : aM := (yX0_calledBy, cX0_calledBy, 4, (some .int), 0, 0)
theorem ok_X0_calledBy : a_okM M_X0_calledBy 1 := ⟨⟨by decide +kernel, by decide +kernel⟩, by decide +kernel, a_in 410 (by decide +kernel) rfl, a_in 77 (by decide +kernel) rfl⟩
theorem dX0_calledBy_0 : decode M_X0_calledBy.2.1 0 = .ok (.iconst 0, 1) := by decide +kernel
theorem dX0_calledBy_1 : decode M_X0_calledBy.2.1 1 = .ok (.istore_n 2, 1) := by decide +kernel
theorem dX0_calledBy_2 : decode M_X0_calledBy.2.1 2 = .ok (.iconst 0, 1) := by decide +kernel
theorem dX0_calledBy_3 : decode M_X0_calledBy.2.1 3 = .ok (.istore_n 3, 1) := by decide +kernel
theorem dX0_calledBy_4 : decode M_X0_calledBy.2.1 4 = .ok (.iload_n 3, 1) := by decide +kernel
theorem dX0_calledBy_5 : decode M_X0_calledBy.2.1 5 = .ok (.bipush 9, 2) := by decide +kernel
theorem dX0_calledBy_7 : decode M_X0_calledBy.2.1 7 = .ok (.if_icmp .ge 25, 3) := by decide +kernel
theorem dX0_calledBy_10 : decode M_X0_calledBy.2.1 10 = .ok (.aload_n 0, 1) := by decide +kernel
theorem dX0_calledBy_11 : decode M_X0_calledBy.2.1 11 = .ok (.getfield 37, 3) := by decide +kernel
theorem dX0_calledBy_14 : decode M_X0_calledBy.2.1 14 = .ok (.iload_n 3, 1) := by decide +kernel
theorem dX0_calledBy_15 : decode M_X0_calledBy.2.1 15 = .ok (.iaload, 1) := by decide +kernel
theorem dX0_calledBy_16 : decode M_X0_calledBy.2.1 16 = .ok (.iload_n 1, 1) := by decide +kernel
theorem dX0_calledBy_17 : decode M_X0_calledBy.2.1 17 = .ok (.if_icmp .ne 9, 3) := by decide +kernel
theorem dX0_calledBy_20 : decode M_X0_calledBy.2.1 20 = .ok (.iload_n 2, 1) := by decide +kernel
theorem dX0_calledBy_21 : decode M_X0_calledBy.2.1 21 = .ok (.iconst 1, 1) := by decide +kernel
theorem dX0_calledBy_22 : decode M_X0_calledBy.2.1 22 = .ok (.iload_n 3, 1) := by decide +kernel
theorem dX0_calledBy_23 : decode M_X0_calledBy.2.1 23 = .ok (.ishl, 1) := by decide +kernel
theorem dX0_calledBy_24 : decode M_X0_calledBy.2.1 24 = .ok (.ior, 1) := by decide +kernel
theorem dX0_calledBy_25 : decode M_X0_calledBy.2.1 25 = .ok (.istore_n 2, 1) := by decide +kernel
theorem dX0_calledBy_26 : decode M_X0_calledBy.2.1 26 = .ok (.iinc 3 1, 3) := by decide +kernel
theorem dX0_calledBy_29 : decode M_X0_calledBy.2.1 29 = .ok (.goto (-25), 3) := by decide +kernel
theorem dX0_calledBy_32 : decode M_X0_calledBy.2.1 32 = .ok (.iload_n 2, 1) := by decide +kernel
theorem dX0_calledBy_33 : decode M_X0_calledBy.2.1 33 = .ok (.ireturn, 1) := by decide +kernel
def c_X0_calledBy_4 (a0 : Nat) (a1 : Int32) (k4 : Int32 → Int32 → aW → Option (Int32 × aW)) (b2 : Int32) (b3 : Int32) (w : aW) : Option (Int32 × aW) :=
  if (9 : Int32) ≤ b3 then
    some (b2, w)
  else
    (gR 0 w a0 8).bind fun r1 =>
    (gA w r1 b3).bind fun x2 =>
    if ¬ x2 = a1 then
      k4 b2 (b3 + 1) w
    else
      k4 (b2 ||| ((1 : Int32) <<< (b3 &&& 31))) (b3 + 1) w
theorem t_X0_calledBy_4 (a0 : Nat) (a1 : Int32) (k4 : Int32 → Int32 → aW → Option (Int32 × aW)) (hk4 : ∀ (b2 : Int32) (b3 : Int32) (w : aW), Ev rvI M_X0_calledBy 4 [some (.ref a0), some (.int a1), some (.int b2), some (.int b3)] [] w (k4 b2 b3 w)) (b2 : Int32) (b3 : Int32) (w : aW) : Ev rvI M_X0_calledBy 4 [some (.ref a0), some (.int a1), some (.int b2), some (.int b3)] [] w (c_X0_calledBy_4 a0 a1 k4 b2 b3 w) := by
  unfold c_X0_calledBy_4
  refine e_iload_n (pc := 4) dX0_calledBy_4 rfl rfl ?_
  refine e_bipush (pc := 5) dX0_calledBy_5 kb_9 ?_
  refine e_icmp_ge (pc := 7) (tgt := 32) dX0_calledBy_7 (by decide) (fun _ => ?_) (fun _ => ?_)
  · refine e_iload_n (pc := 32) dX0_calledBy_32 rfl rfl ?_
    exact e_iret (pc := 33) dX0_calledBy_33 rfl rfl
  · refine e_aload_n (pc := 10) dX0_calledBy_10 rfl rfl ?_
    refine e_getR (pc := 11) dX0_calledBy_11 hs_X0_37 (fun r1 => ?_)
    refine e_iload_n (pc := 14) dX0_calledBy_14 rfl rfl ?_
    refine e_iald (pc := 15) dX0_calledBy_15 (fun x2 => ?_)
    refine e_iload_n (pc := 16) dX0_calledBy_16 rfl rfl ?_
    refine e_icmp_ne (pc := 17) (tgt := 26) dX0_calledBy_17 (by decide) (fun _ => ?_) (fun _ => ?_)
    · refine e_iinc (L' := [some (.ref a0), some (.int a1), some (.int b2), some (.int (b3 + 1))]) (pc := 26) (v := 1) dX0_calledBy_26 (by decide) rfl kc_1 rfl ?_
      refine e_goto (pc := 29) (tgt := 4) dX0_calledBy_29 (by decide) ?_
      exact hk4 b2 (b3 + 1) w
    · refine e_iload_n (pc := 20) dX0_calledBy_20 rfl rfl ?_
      refine e_iconst (pc := 21) dX0_calledBy_21 kc_1 ?_
      refine e_iload_n (pc := 22) dX0_calledBy_22 rfl rfl ?_
      refine e_ishl (pc := 23) dX0_calledBy_23 ?_
      refine e_ior (pc := 24) dX0_calledBy_24 ?_
      refine e_istore_n (L' := [some (.ref a0), some (.int a1), some (.int (b2 ||| ((1 : Int32) <<< (b3 &&& 31)))), some (.int b3)]) (pc := 25) dX0_calledBy_25 rfl (by decide) rfl ?_
      refine e_iinc (L' := [some (.ref a0), some (.int a1), some (.int (b2 ||| ((1 : Int32) <<< (b3 &&& 31)))), some (.int (b3 + 1))]) (pc := 26) (v := 1) dX0_calledBy_26 (by decide) rfl kc_1 rfl ?_
      refine e_goto (pc := 29) (tgt := 4) dX0_calledBy_29 (by decide) ?_
      exact hk4 (b2 ||| ((1 : Int32) <<< (b3 &&& 31))) (b3 + 1) w
def f_X0_calledBy (a0 : Nat) (a1 : Int32) (w : aW) : Option (Int32 × aW) :=
  loop3 (c_X0_calledBy_4 a0 a1) a_fuel (0 : Int32) (0 : Int32) w
theorem s_X0_calledBy (a0 : Nat) (a1 : Int32) (w : aW) : Sp rvI M_X0_calledBy [.ref a0, .int a1] w (f_X0_calledBy a0 a1 w) := by
  refine e_entry [some (.ref a0), some (.int a1), none, none] (by decide +kernel) (Nat.le_of_ble_eq_true rfl) (fun _ => rfl) ?_
  unfold f_X0_calledBy
  refine e_iconst (pc := 0) dX0_calledBy_0 kc_0 ?_
  refine e_istore_n (L' := [some (.ref a0), some (.int a1), some (.int (0 : Int32)), none]) (pc := 1) dX0_calledBy_1 rfl (by decide) rfl ?_
  refine e_iconst (pc := 2) dX0_calledBy_2 kc_0 ?_
  refine e_istore_n (L' := [some (.ref a0), some (.int a1), some (.int (0 : Int32)), some (.int (0 : Int32))]) (pc := 3) dX0_calledBy_3 rfl (by decide) rfl ?_
  exact e_loop3 (L := fun b2 b3 => [some (.ref a0), some (.int a1), some (.int b2), some (.int b3)]) (S := fun b2 b3 => []) (fun kf hkf => t_X0_calledBy_4 a0 a1  kf hkf) _ (0 : Int32) (0 : Int32) w
def M_X0_needTogether : aM := (yX0_needTogether, cX0_needTogether, 4, (some .int), 1, 26)
theorem ok_X0_needTogether : a_okM M_X0_needTogether 1 := ⟨⟨by decide +kernel, by decide +kernel⟩, by decide +kernel, a_in 414 (by decide +kernel) rfl, a_in 77 (by decide +kernel) rfl⟩
theorem dX0_needTogether_0 : decode M_X0_needTogether.2.1 0 = .ok (.iconst 0, 1) := by decide +kernel
theorem dX0_needTogether_1 : decode M_X0_needTogether.2.1 1 = .ok (.istore_n 2, 1) := by decide +kernel
theorem dX0_needTogether_2 : decode M_X0_needTogether.2.1 2 = .ok (.iconst 0, 1) := by decide +kernel
theorem dX0_needTogether_3 : decode M_X0_needTogether.2.1 3 = .ok (.istore_n 3, 1) := by decide +kernel
theorem dX0_needTogether_4 : decode M_X0_needTogether.2.1 4 = .ok (.iload_n 3, 1) := by decide +kernel
theorem dX0_needTogether_5 : decode M_X0_needTogether.2.1 5 = .ok (.bipush 9, 2) := by decide +kernel
theorem dX0_needTogether_7 : decode M_X0_needTogether.2.1 7 = .ok (.if_icmp .ge 35, 3) := by decide +kernel
theorem dX0_needTogether_10 : decode M_X0_needTogether.2.1 10 = .ok (.iload_n 1, 1) := by decide +kernel
theorem dX0_needTogether_11 : decode M_X0_needTogether.2.1 11 = .ok (.iload_n 3, 1) := by decide +kernel
theorem dX0_needTogether_12 : decode M_X0_needTogether.2.1 12 = .ok (.invokestatic 91, 3) := by decide +kernel
theorem dX0_needTogether_15 : decode M_X0_needTogether.2.1 15 = .ok (.ifCond .eq 21, 3) := by decide +kernel
theorem dX0_needTogether_18 : decode M_X0_needTogether.2.1 18 = .ok (.iload_n 2, 1) := by decide +kernel
theorem dX0_needTogether_19 : decode M_X0_needTogether.2.1 19 = .ok (.aload_n 0, 1) := by decide +kernel
theorem dX0_needTogether_20 : decode M_X0_needTogether.2.1 20 = .ok (.getfield 24, 3) := by decide +kernel
theorem dX0_needTogether_23 : decode M_X0_needTogether.2.1 23 = .ok (.iload_n 3, 1) := by decide +kernel
theorem dX0_needTogether_24 : decode M_X0_needTogether.2.1 24 = .ok (.iaload, 1) := by decide +kernel
theorem dX0_needTogether_25 : decode M_X0_needTogether.2.1 25 = .ok (.aload_n 0, 1) := by decide +kernel
theorem dX0_needTogether_26 : decode M_X0_needTogether.2.1 26 = .ok (.getfield 28, 3) := by decide +kernel
theorem dX0_needTogether_29 : decode M_X0_needTogether.2.1 29 = .ok (.iload_n 3, 1) := by decide +kernel
theorem dX0_needTogether_30 : decode M_X0_needTogether.2.1 30 = .ok (.iaload, 1) := by decide +kernel
theorem dX0_needTogether_31 : decode M_X0_needTogether.2.1 31 = .ok (.invokestatic 141, 3) := by decide +kernel
theorem dX0_needTogether_34 : decode M_X0_needTogether.2.1 34 = .ok (.iadd, 1) := by decide +kernel
theorem dX0_needTogether_35 : decode M_X0_needTogether.2.1 35 = .ok (.istore_n 2, 1) := by decide +kernel
theorem dX0_needTogether_36 : decode M_X0_needTogether.2.1 36 = .ok (.iinc 3 1, 3) := by decide +kernel
theorem dX0_needTogether_39 : decode M_X0_needTogether.2.1 39 = .ok (.goto (-35), 3) := by decide +kernel
theorem dX0_needTogether_42 : decode M_X0_needTogether.2.1 42 = .ok (.iload_n 2, 1) := by decide +kernel
theorem dX0_needTogether_43 : decode M_X0_needTogether.2.1 43 = .ok (.ireturn, 1) := by decide +kernel
def c_X0_needTogether_4 (a0 : Nat) (a1 : Int32) (k4 : Int32 → Int32 → aW → Option (Int32 × aW)) (b2 : Int32) (b3 : Int32) (w : aW) : Option (Int32 × aW) :=
  if (9 : Int32) ≤ b3 then
    some (b2, w)
  else
    bk (f_X3_has a1 b3 w) fun x2 w1 =>
    if x2 = (0 : Int32) then
      k4 b2 (b3 + 1) w1
    else
      (gR 0 w1 a0 4).bind fun r3 =>
      (gA w1 r3 b3).bind fun x4 =>
      (gR 0 w1 a0 5).bind fun r5 =>
      (gA w1 r5 b3).bind fun x6 =>
      bk (f_X2_needOf x4 x6 w1) fun x8 w7 =>
      k4 (b2 + x8) (b3 + 1) w7
theorem t_X0_needTogether_4 (a0 : Nat) (a1 : Int32) (k4 : Int32 → Int32 → aW → Option (Int32 × aW)) (hk4 : ∀ (b2 : Int32) (b3 : Int32) (w : aW), Ev rvI M_X0_needTogether 4 [some (.ref a0), some (.int a1), some (.int b2), some (.int b3)] [] w (k4 b2 b3 w)) (b2 : Int32) (b3 : Int32) (w : aW) : Ev rvI M_X0_needTogether 4 [some (.ref a0), some (.int a1), some (.int b2), some (.int b3)] [] w (c_X0_needTogether_4 a0 a1 k4 b2 b3 w) := by
  unfold c_X0_needTogether_4
  refine e_iload_n (pc := 4) dX0_needTogether_4 rfl rfl ?_
  refine e_bipush (pc := 5) dX0_needTogether_5 kb_9 ?_
  refine e_icmp_ge (pc := 7) (tgt := 42) dX0_needTogether_7 (by decide) (fun _ => ?_) (fun _ => ?_)
  · refine e_iload_n (pc := 42) dX0_needTogether_42 rfl rfl ?_
    exact e_iret (pc := 43) dX0_needTogether_43 rfl rfl
  · refine e_iload_n (pc := 10) dX0_needTogether_10 rfl rfl ?_
    refine e_iload_n (pc := 11) dX0_needTogether_11 rfl rfl ?_
    refine e_callN (pc := 12) (av := [.int a1, .int b3]) (S := []) ok_X3_has ⟨Nat.le_of_ble_eq_true rfl, Nat.le_of_ble_eq_true rfl⟩ hn_X0_91 dX0_needTogether_12 (s_X3_has a1 b3 w) rfl rfl (Nat.le_of_ble_eq_true rfl) (fun x2 w1 => ?_)
    refine e_if_eq (pc := 15) (tgt := 36) dX0_needTogether_15 (by decide) (fun _ => ?_) (fun _ => ?_)
    · refine e_iinc (L' := [some (.ref a0), some (.int a1), some (.int b2), some (.int (b3 + 1))]) (pc := 36) (v := 1) dX0_needTogether_36 (by decide) rfl kc_1 rfl ?_
      refine e_goto (pc := 39) (tgt := 4) dX0_needTogether_39 (by decide) ?_
      exact hk4 b2 (b3 + 1) w1
    · refine e_iload_n (pc := 18) dX0_needTogether_18 rfl rfl ?_
      refine e_aload_n (pc := 19) dX0_needTogether_19 rfl rfl ?_
      refine e_getR (pc := 20) dX0_needTogether_20 hs_X0_24 (fun r3 => ?_)
      refine e_iload_n (pc := 23) dX0_needTogether_23 rfl rfl ?_
      refine e_iald (pc := 24) dX0_needTogether_24 (fun x4 => ?_)
      refine e_aload_n (pc := 25) dX0_needTogether_25 rfl rfl ?_
      refine e_getR (pc := 26) dX0_needTogether_26 hs_X0_28 (fun r5 => ?_)
      refine e_iload_n (pc := 29) dX0_needTogether_29 rfl rfl ?_
      refine e_iald (pc := 30) dX0_needTogether_30 (fun x6 => ?_)
      refine e_callS (pc := 31) (av := [.int x4, .int x6]) (S := [.int b2]) ok_X2_needOf ⟨Nat.le_of_ble_eq_true rfl, Nat.le_of_ble_eq_true rfl⟩ ht_X0_141 dX0_needTogether_31 (s_X2_needOf x4 x6 w1) rfl rfl (Nat.le_of_ble_eq_true rfl) (fun x8 w7 => ?_)
      refine e_iadd (pc := 34) dX0_needTogether_34 ?_
      refine e_istore_n (L' := [some (.ref a0), some (.int a1), some (.int (b2 + x8)), some (.int b3)]) (pc := 35) dX0_needTogether_35 rfl (by decide) rfl ?_
      refine e_iinc (L' := [some (.ref a0), some (.int a1), some (.int (b2 + x8)), some (.int (b3 + 1))]) (pc := 36) (v := 1) dX0_needTogether_36 (by decide) rfl kc_1 rfl ?_
      refine e_goto (pc := 39) (tgt := 4) dX0_needTogether_39 (by decide) ?_
      exact hk4 (b2 + x8) (b3 + 1) w7
def f_X0_needTogether (a0 : Nat) (a1 : Int32) (w : aW) : Option (Int32 × aW) :=
  loop3 (c_X0_needTogether_4 a0 a1) a_fuel (0 : Int32) (0 : Int32) w
theorem s_X0_needTogether (a0 : Nat) (a1 : Int32) (w : aW) : Sp rvI M_X0_needTogether [.ref a0, .int a1] w (f_X0_needTogether a0 a1 w) := by
  refine e_entry [some (.ref a0), some (.int a1), none, none] (by decide +kernel) (Nat.le_of_ble_eq_true rfl) (fun _ => rfl) ?_
  unfold f_X0_needTogether
  refine e_iconst (pc := 0) dX0_needTogether_0 kc_0 ?_
  refine e_istore_n (L' := [some (.ref a0), some (.int a1), some (.int (0 : Int32)), none]) (pc := 1) dX0_needTogether_1 rfl (by decide) rfl ?_
  refine e_iconst (pc := 2) dX0_needTogether_2 kc_0 ?_
  refine e_istore_n (L' := [some (.ref a0), some (.int a1), some (.int (0 : Int32)), some (.int (0 : Int32))]) (pc := 3) dX0_needTogether_3 rfl (by decide) rfl ?_
  exact e_loop3 (L := fun b2 b3 => [some (.ref a0), some (.int a1), some (.int b2), some (.int b3)]) (S := fun b2 b3 => []) (fun kf hkf => t_X0_needTogether_4 a0 a1  kf hkf) _ (0 : Int32) (0 : Int32) w
def M_X0_workTogether : aM := (yX0_workTogether, cX0_workTogether, 4, (some .int), 1, 23)
theorem ok_X0_workTogether : a_okM M_X0_workTogether 1 := ⟨⟨by decide +kernel, by decide +kernel⟩, by decide +kernel, a_in 418 (by decide +kernel) rfl, a_in 77 (by decide +kernel) rfl⟩
theorem dX0_workTogether_0 : decode M_X0_workTogether.2.1 0 = .ok (.iconst 0, 1) := by decide +kernel
theorem dX0_workTogether_1 : decode M_X0_workTogether.2.1 1 = .ok (.istore_n 2, 1) := by decide +kernel
theorem dX0_workTogether_2 : decode M_X0_workTogether.2.1 2 = .ok (.iconst 0, 1) := by decide +kernel
theorem dX0_workTogether_3 : decode M_X0_workTogether.2.1 3 = .ok (.istore_n 3, 1) := by decide +kernel
theorem dX0_workTogether_4 : decode M_X0_workTogether.2.1 4 = .ok (.iload_n 3, 1) := by decide +kernel
theorem dX0_workTogether_5 : decode M_X0_workTogether.2.1 5 = .ok (.bipush 9, 2) := by decide +kernel
theorem dX0_workTogether_7 : decode M_X0_workTogether.2.1 7 = .ok (.if_icmp .ge 35, 3) := by decide +kernel
theorem dX0_workTogether_10 : decode M_X0_workTogether.2.1 10 = .ok (.iload_n 1, 1) := by decide +kernel
theorem dX0_workTogether_11 : decode M_X0_workTogether.2.1 11 = .ok (.iload_n 3, 1) := by decide +kernel
theorem dX0_workTogether_12 : decode M_X0_workTogether.2.1 12 = .ok (.invokestatic 91, 3) := by decide +kernel
theorem dX0_workTogether_15 : decode M_X0_workTogether.2.1 15 = .ok (.ifCond .eq 21, 3) := by decide +kernel
theorem dX0_workTogether_18 : decode M_X0_workTogether.2.1 18 = .ok (.iload_n 2, 1) := by decide +kernel
theorem dX0_workTogether_19 : decode M_X0_workTogether.2.1 19 = .ok (.aload_n 0, 1) := by decide +kernel
theorem dX0_workTogether_20 : decode M_X0_workTogether.2.1 20 = .ok (.getfield 24, 3) := by decide +kernel
theorem dX0_workTogether_23 : decode M_X0_workTogether.2.1 23 = .ok (.iload_n 3, 1) := by decide +kernel
theorem dX0_workTogether_24 : decode M_X0_workTogether.2.1 24 = .ok (.iaload, 1) := by decide +kernel
theorem dX0_workTogether_25 : decode M_X0_workTogether.2.1 25 = .ok (.aload_n 0, 1) := by decide +kernel
theorem dX0_workTogether_26 : decode M_X0_workTogether.2.1 26 = .ok (.getfield 28, 3) := by decide +kernel
theorem dX0_workTogether_29 : decode M_X0_workTogether.2.1 29 = .ok (.iload_n 3, 1) := by decide +kernel
theorem dX0_workTogether_30 : decode M_X0_workTogether.2.1 30 = .ok (.iaload, 1) := by decide +kernel
theorem dX0_workTogether_31 : decode M_X0_workTogether.2.1 31 = .ok (.invokestatic 131, 3) := by decide +kernel
theorem dX0_workTogether_34 : decode M_X0_workTogether.2.1 34 = .ok (.iadd, 1) := by decide +kernel
theorem dX0_workTogether_35 : decode M_X0_workTogether.2.1 35 = .ok (.istore_n 2, 1) := by decide +kernel
theorem dX0_workTogether_36 : decode M_X0_workTogether.2.1 36 = .ok (.iinc 3 1, 3) := by decide +kernel
theorem dX0_workTogether_39 : decode M_X0_workTogether.2.1 39 = .ok (.goto (-35), 3) := by decide +kernel
theorem dX0_workTogether_42 : decode M_X0_workTogether.2.1 42 = .ok (.iload_n 2, 1) := by decide +kernel
theorem dX0_workTogether_43 : decode M_X0_workTogether.2.1 43 = .ok (.ireturn, 1) := by decide +kernel
def c_X0_workTogether_4 (a0 : Nat) (a1 : Int32) (k4 : Int32 → Int32 → aW → Option (Int32 × aW)) (b2 : Int32) (b3 : Int32) (w : aW) : Option (Int32 × aW) :=
  if (9 : Int32) ≤ b3 then
    some (b2, w)
  else
    bk (f_X3_has a1 b3 w) fun x2 w1 =>
    if x2 = (0 : Int32) then
      k4 b2 (b3 + 1) w1
    else
      (gR 0 w1 a0 4).bind fun r3 =>
      (gA w1 r3 b3).bind fun x4 =>
      (gR 0 w1 a0 5).bind fun r5 =>
      (gA w1 r5 b3).bind fun x6 =>
      bk (f_X2_workOf x4 x6 w1) fun x8 w7 =>
      k4 (b2 + x8) (b3 + 1) w7
theorem t_X0_workTogether_4 (a0 : Nat) (a1 : Int32) (k4 : Int32 → Int32 → aW → Option (Int32 × aW)) (hk4 : ∀ (b2 : Int32) (b3 : Int32) (w : aW), Ev rvI M_X0_workTogether 4 [some (.ref a0), some (.int a1), some (.int b2), some (.int b3)] [] w (k4 b2 b3 w)) (b2 : Int32) (b3 : Int32) (w : aW) : Ev rvI M_X0_workTogether 4 [some (.ref a0), some (.int a1), some (.int b2), some (.int b3)] [] w (c_X0_workTogether_4 a0 a1 k4 b2 b3 w) := by
  unfold c_X0_workTogether_4
  refine e_iload_n (pc := 4) dX0_workTogether_4 rfl rfl ?_
  refine e_bipush (pc := 5) dX0_workTogether_5 kb_9 ?_
  refine e_icmp_ge (pc := 7) (tgt := 42) dX0_workTogether_7 (by decide) (fun _ => ?_) (fun _ => ?_)
  · refine e_iload_n (pc := 42) dX0_workTogether_42 rfl rfl ?_
    exact e_iret (pc := 43) dX0_workTogether_43 rfl rfl
  · refine e_iload_n (pc := 10) dX0_workTogether_10 rfl rfl ?_
    refine e_iload_n (pc := 11) dX0_workTogether_11 rfl rfl ?_
    refine e_callN (pc := 12) (av := [.int a1, .int b3]) (S := []) ok_X3_has ⟨Nat.le_of_ble_eq_true rfl, Nat.le_of_ble_eq_true rfl⟩ hn_X0_91 dX0_workTogether_12 (s_X3_has a1 b3 w) rfl rfl (Nat.le_of_ble_eq_true rfl) (fun x2 w1 => ?_)
    refine e_if_eq (pc := 15) (tgt := 36) dX0_workTogether_15 (by decide) (fun _ => ?_) (fun _ => ?_)
    · refine e_iinc (L' := [some (.ref a0), some (.int a1), some (.int b2), some (.int (b3 + 1))]) (pc := 36) (v := 1) dX0_workTogether_36 (by decide) rfl kc_1 rfl ?_
      refine e_goto (pc := 39) (tgt := 4) dX0_workTogether_39 (by decide) ?_
      exact hk4 b2 (b3 + 1) w1
    · refine e_iload_n (pc := 18) dX0_workTogether_18 rfl rfl ?_
      refine e_aload_n (pc := 19) dX0_workTogether_19 rfl rfl ?_
      refine e_getR (pc := 20) dX0_workTogether_20 hs_X0_24 (fun r3 => ?_)
      refine e_iload_n (pc := 23) dX0_workTogether_23 rfl rfl ?_
      refine e_iald (pc := 24) dX0_workTogether_24 (fun x4 => ?_)
      refine e_aload_n (pc := 25) dX0_workTogether_25 rfl rfl ?_
      refine e_getR (pc := 26) dX0_workTogether_26 hs_X0_28 (fun r5 => ?_)
      refine e_iload_n (pc := 29) dX0_workTogether_29 rfl rfl ?_
      refine e_iald (pc := 30) dX0_workTogether_30 (fun x6 => ?_)
      refine e_callS (pc := 31) (av := [.int x4, .int x6]) (S := [.int b2]) ok_X2_workOf ⟨Nat.le_of_ble_eq_true rfl, Nat.le_of_ble_eq_true rfl⟩ ht_X0_131 dX0_workTogether_31 (s_X2_workOf x4 x6 w1) rfl rfl (Nat.le_of_ble_eq_true rfl) (fun x8 w7 => ?_)
      refine e_iadd (pc := 34) dX0_workTogether_34 ?_
      refine e_istore_n (L' := [some (.ref a0), some (.int a1), some (.int (b2 + x8)), some (.int b3)]) (pc := 35) dX0_workTogether_35 rfl (by decide) rfl ?_
      refine e_iinc (L' := [some (.ref a0), some (.int a1), some (.int (b2 + x8)), some (.int (b3 + 1))]) (pc := 36) (v := 1) dX0_workTogether_36 (by decide) rfl kc_1 rfl ?_
      refine e_goto (pc := 39) (tgt := 4) dX0_workTogether_39 (by decide) ?_
      exact hk4 (b2 + x8) (b3 + 1) w7
def f_X0_workTogether (a0 : Nat) (a1 : Int32) (w : aW) : Option (Int32 × aW) :=
  loop3 (c_X0_workTogether_4 a0 a1) a_fuel (0 : Int32) (0 : Int32) w
theorem s_X0_workTogether (a0 : Nat) (a1 : Int32) (w : aW) : Sp rvI M_X0_workTogether [.ref a0, .int a1] w (f_X0_workTogether a0 a1 w) := by
  refine e_entry [some (.ref a0), some (.int a1), none, none] (by decide +kernel) (Nat.le_of_ble_eq_true rfl) (fun _ => rfl) ?_
  unfold f_X0_workTogether
  refine e_iconst (pc := 0) dX0_workTogether_0 kc_0 ?_
  refine e_istore_n (L' := [some (.ref a0), some (.int a1), some (.int (0 : Int32)), none]) (pc := 1) dX0_workTogether_1 rfl (by decide) rfl ?_
  refine e_iconst (pc := 2) dX0_workTogether_2 kc_0 ?_
  refine e_istore_n (L' := [some (.ref a0), some (.int a1), some (.int (0 : Int32)), some (.int (0 : Int32))]) (pc := 3) dX0_workTogether_3 rfl (by decide) rfl ?_
  exact e_loop3 (L := fun b2 b3 => [some (.ref a0), some (.int a1), some (.int b2), some (.int b3)]) (S := fun b2 b3 => []) (fun kf hkf => t_X0_workTogether_4 a0 a1  kf hkf) _ (0 : Int32) (0 : Int32) w
