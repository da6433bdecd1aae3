/-! the decompiled methods: each f_ is what its bytecode does to a world; each s_ ties it to the machine. Written by program (wip/gen/gen.py). -/
def M_X4_image : aM := (yX4_image, cX4_image, 1, (some .int), 2, 44)
theorem ok_X4_image : a_okM M_X4_image 0 := ⟨⟨by decide +kernel, by decide +kernel⟩, by decide +kernel, a_in 1132 (by decide +kernel) rfl, a_in 79 (by decide +kernel) rfl⟩
theorem dX4_image_0 : decode M_X4_image.2.1 0 = .ok (.aload_n 0, 1) := by decide +kernel
theorem dX4_image_1 : decode M_X4_image.2.1 1 = .ok (.iconst 0, 1) := by decide +kernel
theorem dX4_image_2 : decode M_X4_image.2.1 2 = .ok (.putfield 80, 3) := by decide +kernel
theorem dX4_image_5 : decode M_X4_image.2.1 5 = .ok (.aload_n 0, 1) := by decide +kernel
theorem dX4_image_6 : decode M_X4_image.2.1 6 = .ok (.iconst 1, 1) := by decide +kernel
theorem dX4_image_7 : decode M_X4_image.2.1 7 = .ok (.putfield 246, 3) := by decide +kernel
theorem dX4_image_10 : decode M_X4_image.2.1 10 = .ok (.aload_n 0, 1) := by decide +kernel
theorem dX4_image_11 : decode M_X4_image.2.1 11 = .ok (.aload_n 0, 1) := by decide +kernel
theorem dX4_image_12 : decode M_X4_image.2.1 12 = .ok (.getfield 68, 3) := by decide +kernel
theorem dX4_image_15 : decode M_X4_image.2.1 15 = .ok (.iconst 1, 1) := by decide +kernel
theorem dX4_image_16 : decode M_X4_image.2.1 16 = .ok (.invokevirtual 242, 3) := by decide +kernel
theorem dX4_image_19 : decode M_X4_image.2.1 19 = .ok (.aload_n 0, 1) := by decide +kernel
theorem dX4_image_20 : decode M_X4_image.2.1 20 = .ok (.getfield 124, 3) := by decide +kernel
theorem dX4_image_23 : decode M_X4_image.2.1 23 = .ok (.ireturn, 1) := by decide +kernel
theorem hw_X4_246 : a_fw RX4 246 3 29 (.boolean) := ⟨RX4, TX4, 37, tyX4, rfl, tin_X4, by decide, a_in 894 (by decide +kernel) rfl, tyX4_ok, nmX4, rfl, by decide +kernel⟩
theorem hs_X4_68 : a_fs RX4 68 3 28 := ⟨RX4, TX4, 37, rfl, tin_X4, by decide, a_in 893 (by decide +kernel) rfl⟩
def f_X4_image (a0 : Nat) (w : aW) : Option (Int32 × aW) :=
  (sF 3 w a0 19 (.int (0 : Int32))).bind fun w1 =>
  (sF 3 w1 a0 29 (.int (1 : Int32))).bind fun w2 =>
  (gR 3 w2 a0 28).bind fun r3 =>
  cV 3 w2 a0 (bk (f_X4_carryAll a0 r3 (1 : Int32) w2) fun _ w4 =>
  (gI 3 w4 a0 11).bind fun x5 =>
  some (x5, w4))
theorem s_X4_image (a0 : Nat) (w : aW) : Sp rvI M_X4_image [.ref a0] w (f_X4_image a0 w) := by
  refine e_entry [some (.ref a0)] (by decide +kernel) (Nat.le_of_ble_eq_true rfl) (fun _ => rfl) ?_
  unfold f_X4_image
  refine e_aload_n (pc := 0) dX4_image_0 rfl rfl ?_
  refine e_iconst (pc := 1) dX4_image_1 kc_0 ?_
  refine e_put (pc := 2) dX4_image_2 hw_X4_80 (fun _ => rfl) (fun _ => rfl) (fun w1 => ?_)
  refine e_aload_n (pc := 5) dX4_image_5 rfl rfl ?_
  refine e_iconst (pc := 6) dX4_image_6 kc_1 ?_
  refine e_put (pc := 7) dX4_image_7 hw_X4_246 (fun _ => a_nb (by decide)) (fun _ => a_fb (by decide)) (fun w2 => ?_)
  refine e_aload_n (pc := 10) dX4_image_10 rfl rfl ?_
  refine e_aload_n (pc := 11) dX4_image_11 rfl rfl ?_
  refine e_getR (pc := 12) dX4_image_12 hs_X4_68 (fun r3 => ?_)
  refine e_iconst (pc := 15) dX4_image_15 kc_1 ?_
  refine e_callV (pc := 16) (av := [.ref r3, .int (1 : Int32)]) (S := []) (c0 := 3) rfl rfl ok_X4_carryAll ⟨Nat.le_of_ble_eq_true rfl, Nat.le_of_ble_eq_true rfl⟩ hv_X4_242 dX4_image_16 (s_X4_carryAll a0 r3 (1 : Int32) w2) rfl rfl (Nat.le_of_ble_eq_true rfl) (fun _ w4 => ?_)
  refine e_aload_n (pc := 19) dX4_image_19 rfl rfl ?_
  refine e_getI (pc := 20) dX4_image_20 hs_X4_124 (fun x5 => ?_)
  exact e_iret (pc := 23) dX4_image_23 rfl rfl
def M_X4_restore : aM := (yX4_restore, cX4_restore, 1, (some .int), 2, 44)
theorem ok_X4_restore : a_okM M_X4_restore 0 := ⟨⟨by decide +kernel, by decide +kernel⟩, by decide +kernel, a_in 1136 (by decide +kernel) rfl, a_in 79 (by decide +kernel) rfl⟩
theorem dX4_restore_0 : decode M_X4_restore.2.1 0 = .ok (.aload_n 0, 1) := by decide +kernel
theorem dX4_restore_1 : decode M_X4_restore.2.1 1 = .ok (.iconst 0, 1) := by decide +kernel
theorem dX4_restore_2 : decode M_X4_restore.2.1 2 = .ok (.putfield 80, 3) := by decide +kernel
theorem dX4_restore_5 : decode M_X4_restore.2.1 5 = .ok (.aload_n 0, 1) := by decide +kernel
theorem dX4_restore_6 : decode M_X4_restore.2.1 6 = .ok (.getfield 246, 3) := by decide +kernel
theorem dX4_restore_9 : decode M_X4_restore.2.1 9 = .ok (.ifCond .ne 6, 3) := by decide +kernel
theorem dX4_restore_12 : decode M_X4_restore.2.1 12 = .ok (.bipush (-3), 2) := by decide +kernel
theorem dX4_restore_14 : decode M_X4_restore.2.1 14 = .ok (.ireturn, 1) := by decide +kernel
theorem dX4_restore_15 : decode M_X4_restore.2.1 15 = .ok (.aload_n 0, 1) := by decide +kernel
theorem dX4_restore_16 : decode M_X4_restore.2.1 16 = .ok (.aload_n 0, 1) := by decide +kernel
theorem dX4_restore_17 : decode M_X4_restore.2.1 17 = .ok (.getfield 68, 3) := by decide +kernel
theorem dX4_restore_20 : decode M_X4_restore.2.1 20 = .ok (.iconst 0, 1) := by decide +kernel
theorem dX4_restore_21 : decode M_X4_restore.2.1 21 = .ok (.invokevirtual 242, 3) := by decide +kernel
theorem dX4_restore_24 : decode M_X4_restore.2.1 24 = .ok (.aload_n 0, 1) := by decide +kernel
theorem dX4_restore_25 : decode M_X4_restore.2.1 25 = .ok (.getfield 124, 3) := by decide +kernel
theorem dX4_restore_28 : decode M_X4_restore.2.1 28 = .ok (.ireturn, 1) := by decide +kernel
theorem hs_X4_246 : a_fs RX4 246 3 29 := ⟨RX4, TX4, 37, rfl, tin_X4, by decide, a_in 894 (by decide +kernel) rfl⟩
def f_X4_restore (a0 : Nat) (w : aW) : Option (Int32 × aW) :=
  (sF 3 w a0 19 (.int (0 : Int32))).bind fun w1 =>
  (gI 3 w1 a0 29).bind fun x2 =>
  if ¬ x2 = (0 : Int32) then
    (gR 3 w1 a0 28).bind fun r3 =>
    cV 3 w1 a0 (bk (f_X4_carryAll a0 r3 (0 : Int32) w1) fun _ w4 =>
    (gI 3 w4 a0 11).bind fun x5 =>
    some (x5, w4))
  else
    some ((-3 : Int32), w1)
theorem s_X4_restore (a0 : Nat) (w : aW) : Sp rvI M_X4_restore [.ref a0] w (f_X4_restore a0 w) := by
  refine e_entry [some (.ref a0)] (by decide +kernel) (Nat.le_of_ble_eq_true rfl) (fun _ => rfl) ?_
  unfold f_X4_restore
  refine e_aload_n (pc := 0) dX4_restore_0 rfl rfl ?_
  refine e_iconst (pc := 1) dX4_restore_1 kc_0 ?_
  refine e_put (pc := 2) dX4_restore_2 hw_X4_80 (fun _ => rfl) (fun _ => rfl) (fun w1 => ?_)
  refine e_aload_n (pc := 5) dX4_restore_5 rfl rfl ?_
  refine e_getI (pc := 6) dX4_restore_6 hs_X4_246 (fun x2 => ?_)
  refine e_if_ne (pc := 9) (tgt := 15) dX4_restore_9 (by decide) (fun _ => ?_) (fun _ => ?_)
  · refine e_aload_n (pc := 15) dX4_restore_15 rfl rfl ?_
    refine e_aload_n (pc := 16) dX4_restore_16 rfl rfl ?_
    refine e_getR (pc := 17) dX4_restore_17 hs_X4_68 (fun r3 => ?_)
    refine e_iconst (pc := 20) dX4_restore_20 kc_0 ?_
    refine e_callV (pc := 21) (av := [.ref r3, .int (0 : Int32)]) (S := []) (c0 := 3) rfl rfl ok_X4_carryAll ⟨Nat.le_of_ble_eq_true rfl, Nat.le_of_ble_eq_true rfl⟩ hv_X4_242 dX4_restore_21 (s_X4_carryAll a0 r3 (0 : Int32) w1) rfl rfl (Nat.le_of_ble_eq_true rfl) (fun _ w4 => ?_)
    refine e_aload_n (pc := 24) dX4_restore_24 rfl rfl ?_
    refine e_getI (pc := 25) dX4_restore_25 hs_X4_124 (fun x5 => ?_)
    exact e_iret (pc := 28) dX4_restore_28 rfl rfl
  · refine e_bipush (pc := 12) dX4_restore_12 kb_m3 ?_
    exact e_iret (pc := 14) dX4_restore_14 rfl rfl
def M_X4_beast : aM := (yX4_beast, cX4_beast, 3, (some .int), 3, 70)
theorem ok_X4_beast : a_okM M_X4_beast 2 := ⟨⟨by decide +kernel, by decide +kernel⟩, by decide +kernel, a_in 1140 (by decide +kernel) rfl, a_in 79 (by decide +kernel) rfl⟩
theorem dX4_beast_0 : decode M_X4_beast.2.1 0 = .ok (.aload_n 0, 1) := by decide +kernel
theorem dX4_beast_1 : decode M_X4_beast.2.1 1 = .ok (.iconst 0, 1) := by decide +kernel
theorem dX4_beast_2 : decode M_X4_beast.2.1 2 = .ok (.putfield 80, 3) := by decide +kernel
theorem dX4_beast_5 : decode M_X4_beast.2.1 5 = .ok (.aload_n 0, 1) := by decide +kernel
theorem dX4_beast_6 : decode M_X4_beast.2.1 6 = .ok (.iload_n 1, 1) := by decide +kernel
theorem dX4_beast_7 : decode M_X4_beast.2.1 7 = .ok (.invokevirtual 185, 3) := by decide +kernel
theorem dX4_beast_10 : decode M_X4_beast.2.1 10 = .ok (.ifCond .eq 15, 3) := by decide +kernel
theorem dX4_beast_13 : decode M_X4_beast.2.1 13 = .ok (.iload_n 2, 1) := by decide +kernel
theorem dX4_beast_14 : decode M_X4_beast.2.1 14 = .ok (.i2l, 1) := by decide +kernel
theorem dX4_beast_15 : decode M_X4_beast.2.1 15 = .ok (.lconst 0, 1) := by decide +kernel
theorem dX4_beast_16 : decode M_X4_beast.2.1 16 = .ok (.ldc2_w 249, 3) := by decide +kernel
theorem dX4_beast_19 : decode M_X4_beast.2.1 19 = .ok (.invokestatic 86, 3) := by decide +kernel
theorem dX4_beast_22 : decode M_X4_beast.2.1 22 = .ok (.ifCond .ne 5, 3) := by decide +kernel
theorem dX4_beast_25 : decode M_X4_beast.2.1 25 = .ok (.iconst (-1), 1) := by decide +kernel
theorem dX4_beast_26 : decode M_X4_beast.2.1 26 = .ok (.ireturn, 1) := by decide +kernel
theorem dX4_beast_27 : decode M_X4_beast.2.1 27 = .ok (.iload_n 2, 1) := by decide +kernel
theorem dX4_beast_28 : decode M_X4_beast.2.1 28 = .ok (.tableswitch 112 0 7 #[48, 55, 62, 69, 76, 83, 100, 106], 48) := by decide +kernel
theorem dX4_beast_76 : decode M_X4_beast.2.1 76 = .ok (.aload_n 0, 1) := by decide +kernel
theorem dX4_beast_77 : decode M_X4_beast.2.1 77 = .ok (.getfield 7, 3) := by decide +kernel
theorem dX4_beast_80 : decode M_X4_beast.2.1 80 = .ok (.iload_n 1, 1) := by decide +kernel
theorem dX4_beast_81 : decode M_X4_beast.2.1 81 = .ok (.iaload, 1) := by decide +kernel
theorem dX4_beast_82 : decode M_X4_beast.2.1 82 = .ok (.ireturn, 1) := by decide +kernel
theorem dX4_beast_83 : decode M_X4_beast.2.1 83 = .ok (.aload_n 0, 1) := by decide +kernel
theorem dX4_beast_84 : decode M_X4_beast.2.1 84 = .ok (.getfield 13, 3) := by decide +kernel
theorem dX4_beast_87 : decode M_X4_beast.2.1 87 = .ok (.iload_n 1, 1) := by decide +kernel
theorem dX4_beast_88 : decode M_X4_beast.2.1 88 = .ok (.iaload, 1) := by decide +kernel
theorem dX4_beast_89 : decode M_X4_beast.2.1 89 = .ok (.ireturn, 1) := by decide +kernel
theorem dX4_beast_90 : decode M_X4_beast.2.1 90 = .ok (.aload_n 0, 1) := by decide +kernel
theorem dX4_beast_91 : decode M_X4_beast.2.1 91 = .ok (.getfield 16, 3) := by decide +kernel
theorem dX4_beast_94 : decode M_X4_beast.2.1 94 = .ok (.iload_n 1, 1) := by decide +kernel
theorem dX4_beast_95 : decode M_X4_beast.2.1 95 = .ok (.iaload, 1) := by decide +kernel
theorem dX4_beast_96 : decode M_X4_beast.2.1 96 = .ok (.ireturn, 1) := by decide +kernel
theorem dX4_beast_97 : decode M_X4_beast.2.1 97 = .ok (.aload_n 0, 1) := by decide +kernel
theorem dX4_beast_98 : decode M_X4_beast.2.1 98 = .ok (.getfield 19, 3) := by decide +kernel
theorem dX4_beast_101 : decode M_X4_beast.2.1 101 = .ok (.iload_n 1, 1) := by decide +kernel
theorem dX4_beast_102 : decode M_X4_beast.2.1 102 = .ok (.iaload, 1) := by decide +kernel
theorem dX4_beast_103 : decode M_X4_beast.2.1 103 = .ok (.ireturn, 1) := by decide +kernel
theorem dX4_beast_104 : decode M_X4_beast.2.1 104 = .ok (.aload_n 0, 1) := by decide +kernel
theorem dX4_beast_105 : decode M_X4_beast.2.1 105 = .ok (.getfield 22, 3) := by decide +kernel
theorem dX4_beast_108 : decode M_X4_beast.2.1 108 = .ok (.iload_n 1, 1) := by decide +kernel
theorem dX4_beast_109 : decode M_X4_beast.2.1 109 = .ok (.iaload, 1) := by decide +kernel
theorem dX4_beast_110 : decode M_X4_beast.2.1 110 = .ok (.ireturn, 1) := by decide +kernel
theorem dX4_beast_111 : decode M_X4_beast.2.1 111 = .ok (.aload_n 0, 1) := by decide +kernel
theorem dX4_beast_112 : decode M_X4_beast.2.1 112 = .ok (.getfield 107, 3) := by decide +kernel
theorem dX4_beast_115 : decode M_X4_beast.2.1 115 = .ok (.iload_n 1, 1) := by decide +kernel
theorem dX4_beast_116 : decode M_X4_beast.2.1 116 = .ok (.invokestatic 110, 3) := by decide +kernel
theorem dX4_beast_119 : decode M_X4_beast.2.1 119 = .ok (.ifCond .eq 7, 3) := by decide +kernel
theorem dX4_beast_122 : decode M_X4_beast.2.1 122 = .ok (.iconst 1, 1) := by decide +kernel
theorem dX4_beast_123 : decode M_X4_beast.2.1 123 = .ok (.goto 4, 3) := by decide +kernel
theorem dX4_beast_126 : decode M_X4_beast.2.1 126 = .ok (.iconst 0, 1) := by decide +kernel
theorem dX4_beast_127 : decode M_X4_beast.2.1 127 = .ok (.ireturn, 1) := by decide +kernel
theorem dX4_beast_128 : decode M_X4_beast.2.1 128 = .ok (.aload_n 0, 1) := by decide +kernel
theorem dX4_beast_129 : decode M_X4_beast.2.1 129 = .ok (.iload_n 1, 1) := by decide +kernel
theorem dX4_beast_130 : decode M_X4_beast.2.1 130 = .ok (.invokevirtual 118, 3) := by decide +kernel
theorem dX4_beast_133 : decode M_X4_beast.2.1 133 = .ok (.ireturn, 1) := by decide +kernel
theorem dX4_beast_134 : decode M_X4_beast.2.1 134 = .ok (.aload_n 0, 1) := by decide +kernel
theorem dX4_beast_135 : decode M_X4_beast.2.1 135 = .ok (.iload_n 1, 1) := by decide +kernel
theorem dX4_beast_136 : decode M_X4_beast.2.1 136 = .ok (.invokevirtual 121, 3) := by decide +kernel
theorem dX4_beast_139 : decode M_X4_beast.2.1 139 = .ok (.ireturn, 1) := by decide +kernel
theorem dX4_beast_140 : decode M_X4_beast.2.1 140 = .ok (.aload_n 0, 1) := by decide +kernel
theorem dX4_beast_141 : decode M_X4_beast.2.1 141 = .ok (.getfield 107, 3) := by decide +kernel
theorem dX4_beast_144 : decode M_X4_beast.2.1 144 = .ok (.iload_n 1, 1) := by decide +kernel
theorem dX4_beast_145 : decode M_X4_beast.2.1 145 = .ok (.invokestatic 110, 3) := by decide +kernel
theorem dX4_beast_148 : decode M_X4_beast.2.1 148 = .ok (.ifCond .eq 17, 3) := by decide +kernel
theorem dX4_beast_151 : decode M_X4_beast.2.1 151 = .ok (.aload_n 0, 1) := by decide +kernel
theorem dX4_beast_152 : decode M_X4_beast.2.1 152 = .ok (.iload_n 1, 1) := by decide +kernel
theorem dX4_beast_153 : decode M_X4_beast.2.1 153 = .ok (.aload_n 0, 1) := by decide +kernel
theorem dX4_beast_154 : decode M_X4_beast.2.1 154 = .ok (.getfield 124, 3) := by decide +kernel
theorem dX4_beast_157 : decode M_X4_beast.2.1 157 = .ok (.iconst 1, 1) := by decide +kernel
theorem dX4_beast_158 : decode M_X4_beast.2.1 158 = .ok (.iadd, 1) := by decide +kernel
theorem dX4_beast_159 : decode M_X4_beast.2.1 159 = .ok (.invokevirtual 127, 3) := by decide +kernel
theorem dX4_beast_162 : decode M_X4_beast.2.1 162 = .ok (.goto 5, 3) := by decide +kernel
theorem dX4_beast_165 : decode M_X4_beast.2.1 165 = .ok (.bipush (-4), 2) := by decide +kernel
theorem dX4_beast_167 : decode M_X4_beast.2.1 167 = .ok (.ireturn, 1) := by decide +kernel
def f_X4_beast (a0 : Nat) (a1 : Int32) (a2 : Int32) (w : aW) : Option (Int32 × aW) :=
  (sF 3 w a0 19 (.int (0 : Int32))).bind fun w1 =>
  cV 3 w1 a0 (bk (f_X4_isBeast a0 a1 w1) fun x3 w2 =>
  if x3 = (0 : Int32) then
    some ((-1 : Int32), w2)
  else
    bk (f_X4_in a2.toInt64 (0 : Int64) (8 : Int64) w2) fun x5 w4 =>
    if ¬ x5 = (0 : Int32) then
      if a2 = (0 : Int32) then
        (gR 3 w4 a0 1).bind fun r7 =>
        (gA w4 r7 a1).bind fun x8 =>
        some (x8, w4)
      else
        if a2 = (1 : Int32) then
          (gR 3 w4 a0 2).bind fun r10 =>
          (gA w4 r10 a1).bind fun x11 =>
          some (x11, w4)
        else
          if a2 = (2 : Int32) then
            (gR 3 w4 a0 3).bind fun r13 =>
            (gA w4 r13 a1).bind fun x14 =>
            some (x14, w4)
          else
            if a2 = (3 : Int32) then
              (gR 3 w4 a0 4).bind fun r16 =>
              (gA w4 r16 a1).bind fun x17 =>
              some (x17, w4)
            else
              if a2 = (4 : Int32) then
                (gR 3 w4 a0 5).bind fun r19 =>
                (gA w4 r19 a1).bind fun x20 =>
                some (x20, w4)
              else
                if a2 = (5 : Int32) then
                  (gI 3 w4 a0 6).bind fun x22 =>
                  bk (f_X4_hasBit x22 a1 w4) fun x24 w23 =>
                  if x24 = (0 : Int32) then
                    some ((0 : Int32), w23)
                  else
                    some ((1 : Int32), w23)
                else
                  if a2 = (6 : Int32) then
                    cV 3 w4 a0 (bk (f_X4_needOf a0 a1 w4) fun x27 w26 =>
                    some (x27, w26))
                  else
                    if a2 = (7 : Int32) then
                      cV 3 w4 a0 (bk (f_X4_workOf a0 a1 w4) fun x30 w29 =>
                      some (x30, w29))
                    else
                      (gI 3 w4 a0 6).bind fun x31 =>
                      bk (f_X4_hasBit x31 a1 w4) fun x33 w32 =>
                      if x33 = (0 : Int32) then
                        some ((-4 : Int32), w32)
                      else
                        (gI 3 w32 a0 11).bind fun x34 =>
                        cV 3 w32 a0 (bk (f_X4_wantsOf a0 a1 (x34 + (1 : Int32)) w32) fun x36 w35 =>
                        some (x36, w35))
    else
      some ((-1 : Int32), w4))
theorem s_X4_beast (a0 : Nat) (a1 : Int32) (a2 : Int32) (w : aW) : Sp rvI M_X4_beast [.ref a0, .int a1, .int a2] w (f_X4_beast a0 a1 a2 w) := by
  refine e_entry [some (.ref a0), some (.int a1), some (.int a2)] (by decide +kernel) (Nat.le_of_ble_eq_true rfl) (fun _ => rfl) ?_
  unfold f_X4_beast
  refine e_aload_n (pc := 0) dX4_beast_0 rfl rfl ?_
  refine e_iconst (pc := 1) dX4_beast_1 kc_0 ?_
  refine e_put (pc := 2) dX4_beast_2 hw_X4_80 (fun _ => rfl) (fun _ => rfl) (fun w1 => ?_)
  refine e_aload_n (pc := 5) dX4_beast_5 rfl rfl ?_
  refine e_iload_n (pc := 6) dX4_beast_6 rfl rfl ?_
  refine e_callV (pc := 7) (av := [.int a1]) (S := []) (c0 := 3) rfl rfl ok_X4_isBeast ⟨Nat.le_of_ble_eq_true rfl, Nat.le_of_ble_eq_true rfl⟩ hv_X4_185 dX4_beast_7 (s_X4_isBeast a0 a1 w1) rfl rfl (Nat.le_of_ble_eq_true rfl) (fun x3 w2 => ?_)
  refine e_if_eq (pc := 10) (tgt := 25) dX4_beast_10 (by decide) (fun _ => ?_) (fun _ => ?_)
  · refine e_iconst (pc := 25) dX4_beast_25 kc_m1 ?_
    exact e_iret (pc := 26) dX4_beast_26 rfl rfl
  · refine e_iload_n (pc := 13) dX4_beast_13 rfl rfl ?_
    refine e_i2l (pc := 14) dX4_beast_14 ?_
    refine e_lconst (pc := 15) (v := 0) dX4_beast_15 (by decide) ?_
    refine e_ldc2 (pc := 16) (v := 8) dX4_beast_16 (a_in 1141 (by decide +kernel) rfl) ?_
    refine e_callS (pc := 19) (av := [.long a2.toInt64, .long (0 : Int64), .long (8 : Int64)]) (S := []) ok_X4_in ⟨Nat.le_of_ble_eq_true rfl, Nat.le_of_ble_eq_true rfl⟩ ht_X4_86 dX4_beast_19 (s_X4_in a2.toInt64 (0 : Int64) (8 : Int64) w2) rfl rfl (Nat.le_of_ble_eq_true rfl) (fun x5 w4 => ?_)
    refine e_if_ne (pc := 22) (tgt := 27) dX4_beast_22 (by decide) (fun _ => ?_) (fun _ => ?_)
    · refine e_iload_n (pc := 27) dX4_beast_27 rfl rfl ?_
      refine e_ite (fun h6 => ?_) (fun h6 => ?_)
      · refine e_tabIn (pc := 28) (v := 0) (j := 0) (tgt := 76) dX4_beast_28 h6 rfl (by decide) (by decide) rfl (by decide) ?_
        refine e_aload_n (pc := 76) dX4_beast_76 rfl rfl ?_
        refine e_getR (pc := 77) dX4_beast_77 hs_X4_7 (fun r7 => ?_)
        refine e_iload_n (pc := 80) dX4_beast_80 rfl rfl ?_
        refine e_iald (pc := 81) dX4_beast_81 (fun x8 => ?_)
        exact e_iret (pc := 82) dX4_beast_82 rfl rfl
      · refine e_ite (fun h9 => ?_) (fun h9 => ?_)
        · refine e_tabIn (pc := 28) (v := 1) (j := 1) (tgt := 83) dX4_beast_28 h9 rfl (by decide) (by decide) rfl (by decide) ?_
          refine e_aload_n (pc := 83) dX4_beast_83 rfl rfl ?_
          refine e_getR (pc := 84) dX4_beast_84 hs_X4_13 (fun r10 => ?_)
          refine e_iload_n (pc := 87) dX4_beast_87 rfl rfl ?_
          refine e_iald (pc := 88) dX4_beast_88 (fun x11 => ?_)
          exact e_iret (pc := 89) dX4_beast_89 rfl rfl
        · refine e_ite (fun h12 => ?_) (fun h12 => ?_)
          · refine e_tabIn (pc := 28) (v := 2) (j := 2) (tgt := 90) dX4_beast_28 h12 rfl (by decide) (by decide) rfl (by decide) ?_
            refine e_aload_n (pc := 90) dX4_beast_90 rfl rfl ?_
            refine e_getR (pc := 91) dX4_beast_91 hs_X4_16 (fun r13 => ?_)
            refine e_iload_n (pc := 94) dX4_beast_94 rfl rfl ?_
            refine e_iald (pc := 95) dX4_beast_95 (fun x14 => ?_)
            exact e_iret (pc := 96) dX4_beast_96 rfl rfl
          · refine e_ite (fun h15 => ?_) (fun h15 => ?_)
            · refine e_tabIn (pc := 28) (v := 3) (j := 3) (tgt := 97) dX4_beast_28 h15 rfl (by decide) (by decide) rfl (by decide) ?_
              refine e_aload_n (pc := 97) dX4_beast_97 rfl rfl ?_
              refine e_getR (pc := 98) dX4_beast_98 hs_X4_19 (fun r16 => ?_)
              refine e_iload_n (pc := 101) dX4_beast_101 rfl rfl ?_
              refine e_iald (pc := 102) dX4_beast_102 (fun x17 => ?_)
              exact e_iret (pc := 103) dX4_beast_103 rfl rfl
            · refine e_ite (fun h18 => ?_) (fun h18 => ?_)
              · refine e_tabIn (pc := 28) (v := 4) (j := 4) (tgt := 104) dX4_beast_28 h18 rfl (by decide) (by decide) rfl (by decide) ?_
                refine e_aload_n (pc := 104) dX4_beast_104 rfl rfl ?_
                refine e_getR (pc := 105) dX4_beast_105 hs_X4_22 (fun r19 => ?_)
                refine e_iload_n (pc := 108) dX4_beast_108 rfl rfl ?_
                refine e_iald (pc := 109) dX4_beast_109 (fun x20 => ?_)
                exact e_iret (pc := 110) dX4_beast_110 rfl rfl
              · refine e_ite (fun h21 => ?_) (fun h21 => ?_)
                · refine e_tabIn (pc := 28) (v := 5) (j := 5) (tgt := 111) dX4_beast_28 h21 rfl (by decide) (by decide) rfl (by decide) ?_
                  refine e_aload_n (pc := 111) dX4_beast_111 rfl rfl ?_
                  refine e_getI (pc := 112) dX4_beast_112 hs_X4_107 (fun x22 => ?_)
                  refine e_iload_n (pc := 115) dX4_beast_115 rfl rfl ?_
                  refine e_callS (pc := 116) (av := [.int x22, .int a1]) (S := []) ok_X4_hasBit ⟨Nat.le_of_ble_eq_true rfl, Nat.le_of_ble_eq_true rfl⟩ ht_X4_110 dX4_beast_116 (s_X4_hasBit x22 a1 w4) rfl rfl (Nat.le_of_ble_eq_true rfl) (fun x24 w23 => ?_)
                  refine e_if_eq (pc := 119) (tgt := 126) dX4_beast_119 (by decide) (fun _ => ?_) (fun _ => ?_)
                  · refine e_iconst (pc := 126) dX4_beast_126 kc_0 ?_
                    exact e_iret (pc := 127) dX4_beast_127 rfl rfl
                  · refine e_iconst (pc := 122) dX4_beast_122 kc_1 ?_
                    refine e_goto (pc := 123) (tgt := 127) dX4_beast_123 (by decide) ?_
                    exact e_iret (pc := 127) dX4_beast_127 rfl rfl
                · refine e_ite (fun h25 => ?_) (fun h25 => ?_)
                  · refine e_tabIn (pc := 28) (v := 6) (j := 6) (tgt := 128) dX4_beast_28 h25 rfl (by decide) (by decide) rfl (by decide) ?_
                    refine e_aload_n (pc := 128) dX4_beast_128 rfl rfl ?_
                    refine e_iload_n (pc := 129) dX4_beast_129 rfl rfl ?_
                    refine e_callV (pc := 130) (av := [.int a1]) (S := []) (c0 := 3) rfl rfl ok_X4_needOf ⟨Nat.le_of_ble_eq_true rfl, Nat.le_of_ble_eq_true rfl⟩ hv_X4_118 dX4_beast_130 (s_X4_needOf a0 a1 w4) rfl rfl (Nat.le_of_ble_eq_true rfl) (fun x27 w26 => ?_)
                    exact e_iret (pc := 133) dX4_beast_133 rfl rfl
                  · refine e_ite (fun h28 => ?_) (fun h28 => ?_)
                    · refine e_tabIn (pc := 28) (v := 7) (j := 7) (tgt := 134) dX4_beast_28 h28 rfl (by decide) (by decide) rfl (by decide) ?_
                      refine e_aload_n (pc := 134) dX4_beast_134 rfl rfl ?_
                      refine e_iload_n (pc := 135) dX4_beast_135 rfl rfl ?_
                      refine e_callV (pc := 136) (av := [.int a1]) (S := []) (c0 := 3) rfl rfl ok_X4_workOf ⟨Nat.le_of_ble_eq_true rfl, Nat.le_of_ble_eq_true rfl⟩ hv_X4_121 dX4_beast_136 (s_X4_workOf a0 a1 w4) rfl rfl (Nat.le_of_ble_eq_true rfl) (fun x30 w29 => ?_)
                      exact e_iret (pc := 139) dX4_beast_139 rfl rfl
                    · refine e_tabOut (pc := 28) (tgt := 140) dX4_beast_28 (by have z0 := lv_neT h6 (show (0 : Int32).toInt = 0 from rfl); have z1 := lv_neT h9 (show (1 : Int32).toInt = 1 from rfl); have z2 := lv_neT h12 (show (2 : Int32).toInt = 2 from rfl); have z3 := lv_neT h15 (show (3 : Int32).toInt = 3 from rfl); have z4 := lv_neT h18 (show (4 : Int32).toInt = 4 from rfl); have z5 := lv_neT h21 (show (5 : Int32).toInt = 5 from rfl); have z6 := lv_neT h25 (show (6 : Int32).toInt = 6 from rfl); have z7 := lv_neT h28 (show (7 : Int32).toInt = 7 from rfl); omega) (by decide) ?_
                      refine e_aload_n (pc := 140) dX4_beast_140 rfl rfl ?_
                      refine e_getI (pc := 141) dX4_beast_141 hs_X4_107 (fun x31 => ?_)
                      refine e_iload_n (pc := 144) dX4_beast_144 rfl rfl ?_
                      refine e_callS (pc := 145) (av := [.int x31, .int a1]) (S := []) ok_X4_hasBit ⟨Nat.le_of_ble_eq_true rfl, Nat.le_of_ble_eq_true rfl⟩ ht_X4_110 dX4_beast_145 (s_X4_hasBit x31 a1 w4) rfl rfl (Nat.le_of_ble_eq_true rfl) (fun x33 w32 => ?_)
                      refine e_if_eq (pc := 148) (tgt := 165) dX4_beast_148 (by decide) (fun _ => ?_) (fun _ => ?_)
                      · refine e_bipush (pc := 165) dX4_beast_165 kb_m4 ?_
                        exact e_iret (pc := 167) dX4_beast_167 rfl rfl
                      · refine e_aload_n (pc := 151) dX4_beast_151 rfl rfl ?_
                        refine e_iload_n (pc := 152) dX4_beast_152 rfl rfl ?_
                        refine e_aload_n (pc := 153) dX4_beast_153 rfl rfl ?_
                        refine e_getI (pc := 154) dX4_beast_154 hs_X4_124 (fun x34 => ?_)
                        refine e_iconst (pc := 157) dX4_beast_157 kc_1 ?_
                        refine e_iadd (pc := 158) dX4_beast_158 ?_
                        refine e_callV (pc := 159) (av := [.int a1, .int (x34 + (1 : Int32))]) (S := []) (c0 := 3) rfl rfl ok_X4_wantsOf ⟨Nat.le_of_ble_eq_true rfl, Nat.le_of_ble_eq_true rfl⟩ hv_X4_127 dX4_beast_159 (s_X4_wantsOf a0 a1 (x34 + (1 : Int32)) w32) rfl rfl (Nat.le_of_ble_eq_true rfl) (fun x36 w35 => ?_)
                        refine e_goto (pc := 162) (tgt := 167) dX4_beast_162 (by decide) ?_
                        exact e_iret (pc := 167) dX4_beast_167 rfl rfl
    · refine e_iconst (pc := 25) dX4_beast_25 kc_m1 ?_
      exact e_iret (pc := 26) dX4_beast_26 rfl rfl
def M_X4_person : aM := (yX4_person, cX4_person, 3, (some .int), 2, 45)
theorem ok_X4_person : a_okM M_X4_person 2 := ⟨⟨by decide +kernel, by decide +kernel⟩, by decide +kernel, a_in 1145 (by decide +kernel) rfl, a_in 79 (by decide +kernel) rfl⟩
theorem dX4_person_0 : decode M_X4_person.2.1 0 = .ok (.aload_n 0, 1) := by decide +kernel
theorem dX4_person_1 : decode M_X4_person.2.1 1 = .ok (.iconst 0, 1) := by decide +kernel
theorem dX4_person_2 : decode M_X4_person.2.1 2 = .ok (.putfield 80, 3) := by decide +kernel
theorem dX4_person_5 : decode M_X4_person.2.1 5 = .ok (.iload_n 1, 1) := by decide +kernel
theorem dX4_person_6 : decode M_X4_person.2.1 6 = .ok (.invokestatic 188, 3) := by decide +kernel
theorem dX4_person_9 : decode M_X4_person.2.1 9 = .ok (.ifCond .eq 15, 3) := by decide +kernel
theorem dX4_person_12 : decode M_X4_person.2.1 12 = .ok (.iload_n 2, 1) := by decide +kernel
theorem dX4_person_13 : decode M_X4_person.2.1 13 = .ok (.i2l, 1) := by decide +kernel
theorem dX4_person_14 : decode M_X4_person.2.1 14 = .ok (.lconst 0, 1) := by decide +kernel
theorem dX4_person_15 : decode M_X4_person.2.1 15 = .ok (.ldc2_w 251, 3) := by decide +kernel
theorem dX4_person_18 : decode M_X4_person.2.1 18 = .ok (.invokestatic 86, 3) := by decide +kernel
theorem dX4_person_21 : decode M_X4_person.2.1 21 = .ok (.ifCond .ne 5, 3) := by decide +kernel
theorem dX4_person_24 : decode M_X4_person.2.1 24 = .ok (.iconst (-1), 1) := by decide +kernel
theorem dX4_person_25 : decode M_X4_person.2.1 25 = .ok (.ireturn, 1) := by decide +kernel
theorem dX4_person_26 : decode M_X4_person.2.1 26 = .ok (.iload_n 2, 1) := by decide +kernel
theorem dX4_person_27 : decode M_X4_person.2.1 27 = .ok (.tableswitch 77 0 5 #[37, 44, 51, 58, 65, 71], 37) := by decide +kernel
theorem dX4_person_64 : decode M_X4_person.2.1 64 = .ok (.aload_n 0, 1) := by decide +kernel
theorem dX4_person_65 : decode M_X4_person.2.1 65 = .ok (.getfield 25, 3) := by decide +kernel
theorem dX4_person_68 : decode M_X4_person.2.1 68 = .ok (.iload_n 1, 1) := by decide +kernel
theorem dX4_person_69 : decode M_X4_person.2.1 69 = .ok (.iaload, 1) := by decide +kernel
theorem dX4_person_70 : decode M_X4_person.2.1 70 = .ok (.ireturn, 1) := by decide +kernel
theorem dX4_person_71 : decode M_X4_person.2.1 71 = .ok (.aload_n 0, 1) := by decide +kernel
theorem dX4_person_72 : decode M_X4_person.2.1 72 = .ok (.getfield 28, 3) := by decide +kernel
theorem dX4_person_75 : decode M_X4_person.2.1 75 = .ok (.iload_n 1, 1) := by decide +kernel
theorem dX4_person_76 : decode M_X4_person.2.1 76 = .ok (.iaload, 1) := by decide +kernel
theorem dX4_person_77 : decode M_X4_person.2.1 77 = .ok (.ireturn, 1) := by decide +kernel
theorem dX4_person_78 : decode M_X4_person.2.1 78 = .ok (.aload_n 0, 1) := by decide +kernel
theorem dX4_person_79 : decode M_X4_person.2.1 79 = .ok (.getfield 31, 3) := by decide +kernel
theorem dX4_person_82 : decode M_X4_person.2.1 82 = .ok (.iload_n 1, 1) := by decide +kernel
theorem dX4_person_83 : decode M_X4_person.2.1 83 = .ok (.iaload, 1) := by decide +kernel
theorem dX4_person_84 : decode M_X4_person.2.1 84 = .ok (.ireturn, 1) := by decide +kernel
theorem dX4_person_85 : decode M_X4_person.2.1 85 = .ok (.aload_n 0, 1) := by decide +kernel
theorem dX4_person_86 : decode M_X4_person.2.1 86 = .ok (.getfield 34, 3) := by decide +kernel
theorem dX4_person_89 : decode M_X4_person.2.1 89 = .ok (.iload_n 1, 1) := by decide +kernel
theorem dX4_person_90 : decode M_X4_person.2.1 90 = .ok (.iaload, 1) := by decide +kernel
theorem dX4_person_91 : decode M_X4_person.2.1 91 = .ok (.ireturn, 1) := by decide +kernel
theorem dX4_person_92 : decode M_X4_person.2.1 92 = .ok (.aload_n 0, 1) := by decide +kernel
theorem dX4_person_93 : decode M_X4_person.2.1 93 = .ok (.iload_n 1, 1) := by decide +kernel
theorem dX4_person_94 : decode M_X4_person.2.1 94 = .ok (.invokevirtual 253, 3) := by decide +kernel
theorem dX4_person_97 : decode M_X4_person.2.1 97 = .ok (.ireturn, 1) := by decide +kernel
theorem dX4_person_98 : decode M_X4_person.2.1 98 = .ok (.aload_n 0, 1) := by decide +kernel
theorem dX4_person_99 : decode M_X4_person.2.1 99 = .ok (.iload_n 1, 1) := by decide +kernel
theorem dX4_person_100 : decode M_X4_person.2.1 100 = .ok (.invokevirtual 256, 3) := by decide +kernel
theorem dX4_person_103 : decode M_X4_person.2.1 103 = .ok (.ireturn, 1) := by decide +kernel
theorem dX4_person_104 : decode M_X4_person.2.1 104 = .ok (.aload_n 0, 1) := by decide +kernel
theorem dX4_person_105 : decode M_X4_person.2.1 105 = .ok (.iload_n 1, 1) := by decide +kernel
theorem dX4_person_106 : decode M_X4_person.2.1 106 = .ok (.invokevirtual 259, 3) := by decide +kernel
theorem dX4_person_109 : decode M_X4_person.2.1 109 = .ok (.ireturn, 1) := by decide +kernel
theorem hv_X4_253 : a_okV RX4 M_X4_calledBits 253 := ⟨a_in 1147 (by decide +kernel) rfl, a_in 1149 (by decide +kernel) rfl, a_in 51 (by decide +kernel) rfl⟩
theorem hv_X4_256 : a_okV RX4 M_X4_needBy 256 := ⟨a_in 1151 (by decide +kernel) rfl, a_in 1153 (by decide +kernel) rfl, a_in 52 (by decide +kernel) rfl⟩
theorem hv_X4_259 : a_okV RX4 M_X4_workBy 259 := ⟨a_in 1155 (by decide +kernel) rfl, a_in 1157 (by decide +kernel) rfl, a_in 53 (by decide +kernel) rfl⟩
def f_X4_person (a0 : Nat) (a1 : Int32) (a2 : Int32) (w : aW) : Option (Int32 × aW) :=
  (sF 3 w a0 19 (.int (0 : Int32))).bind fun w1 =>
  bk (f_X4_isPerson a1 w1) fun x3 w2 =>
  if x3 = (0 : Int32) then
    some ((-1 : Int32), w2)
  else
    bk (f_X4_in a2.toInt64 (0 : Int64) (6 : Int64) w2) fun x5 w4 =>
    if ¬ x5 = (0 : Int32) then
      if a2 = (0 : Int32) then
        (gR 3 w4 a0 7).bind fun r7 =>
        (gA w4 r7 a1).bind fun x8 =>
        some (x8, w4)
      else
        if a2 = (1 : Int32) then
          (gR 3 w4 a0 8).bind fun r10 =>
          (gA w4 r10 a1).bind fun x11 =>
          some (x11, w4)
        else
          if a2 = (2 : Int32) then
            (gR 3 w4 a0 9).bind fun r13 =>
            (gA w4 r13 a1).bind fun x14 =>
            some (x14, w4)
          else
            if a2 = (3 : Int32) then
              (gR 3 w4 a0 10).bind fun r16 =>
              (gA w4 r16 a1).bind fun x17 =>
              some (x17, w4)
            else
              if a2 = (4 : Int32) then
                cV 3 w4 a0 (bk (f_X4_calledBits a0 a1 w4) fun x20 w19 =>
                some (x20, w19))
              else
                if a2 = (5 : Int32) then
                  cV 3 w4 a0 (bk (f_X4_needBy a0 a1 w4) fun x23 w22 =>
                  some (x23, w22))
                else
                  cV 3 w4 a0 (bk (f_X4_workBy a0 a1 w4) fun x25 w24 =>
                  some (x25, w24))
    else
      some ((-1 : Int32), w4)
theorem s_X4_person (a0 : Nat) (a1 : Int32) (a2 : Int32) (w : aW) : Sp rvI M_X4_person [.ref a0, .int a1, .int a2] w (f_X4_person a0 a1 a2 w) := by
  refine e_entry [some (.ref a0), some (.int a1), some (.int a2)] (by decide +kernel) (Nat.le_of_ble_eq_true rfl) (fun _ => rfl) ?_
  unfold f_X4_person
  refine e_aload_n (pc := 0) dX4_person_0 rfl rfl ?_
  refine e_iconst (pc := 1) dX4_person_1 kc_0 ?_
  refine e_put (pc := 2) dX4_person_2 hw_X4_80 (fun _ => rfl) (fun _ => rfl) (fun w1 => ?_)
  refine e_iload_n (pc := 5) dX4_person_5 rfl rfl ?_
  refine e_callS (pc := 6) (av := [.int a1]) (S := []) ok_X4_isPerson ⟨Nat.le_of_ble_eq_true rfl, Nat.le_of_ble_eq_true rfl⟩ ht_X4_188 dX4_person_6 (s_X4_isPerson a1 w1) rfl rfl (Nat.le_of_ble_eq_true rfl) (fun x3 w2 => ?_)
  refine e_if_eq (pc := 9) (tgt := 24) dX4_person_9 (by decide) (fun _ => ?_) (fun _ => ?_)
  · refine e_iconst (pc := 24) dX4_person_24 kc_m1 ?_
    exact e_iret (pc := 25) dX4_person_25 rfl rfl
  · refine e_iload_n (pc := 12) dX4_person_12 rfl rfl ?_
    refine e_i2l (pc := 13) dX4_person_13 ?_
    refine e_lconst (pc := 14) (v := 0) dX4_person_14 (by decide) ?_
    refine e_ldc2 (pc := 15) (v := 6) dX4_person_15 (a_in 1146 (by decide +kernel) rfl) ?_
    refine e_callS (pc := 18) (av := [.long a2.toInt64, .long (0 : Int64), .long (6 : Int64)]) (S := []) ok_X4_in ⟨Nat.le_of_ble_eq_true rfl, Nat.le_of_ble_eq_true rfl⟩ ht_X4_86 dX4_person_18 (s_X4_in a2.toInt64 (0 : Int64) (6 : Int64) w2) rfl rfl (Nat.le_of_ble_eq_true rfl) (fun x5 w4 => ?_)
    refine e_if_ne (pc := 21) (tgt := 26) dX4_person_21 (by decide) (fun _ => ?_) (fun _ => ?_)
    · refine e_iload_n (pc := 26) dX4_person_26 rfl rfl ?_
      refine e_ite (fun h6 => ?_) (fun h6 => ?_)
      · refine e_tabIn (pc := 27) (v := 0) (j := 0) (tgt := 64) dX4_person_27 h6 rfl (by decide) (by decide) rfl (by decide) ?_
        refine e_aload_n (pc := 64) dX4_person_64 rfl rfl ?_
        refine e_getR (pc := 65) dX4_person_65 hs_X4_25 (fun r7 => ?_)
        refine e_iload_n (pc := 68) dX4_person_68 rfl rfl ?_
        refine e_iald (pc := 69) dX4_person_69 (fun x8 => ?_)
        exact e_iret (pc := 70) dX4_person_70 rfl rfl
      · refine e_ite (fun h9 => ?_) (fun h9 => ?_)
        · refine e_tabIn (pc := 27) (v := 1) (j := 1) (tgt := 71) dX4_person_27 h9 rfl (by decide) (by decide) rfl (by decide) ?_
          refine e_aload_n (pc := 71) dX4_person_71 rfl rfl ?_
          refine e_getR (pc := 72) dX4_person_72 hs_X4_28 (fun r10 => ?_)
          refine e_iload_n (pc := 75) dX4_person_75 rfl rfl ?_
          refine e_iald (pc := 76) dX4_person_76 (fun x11 => ?_)
          exact e_iret (pc := 77) dX4_person_77 rfl rfl
        · refine e_ite (fun h12 => ?_) (fun h12 => ?_)
          · refine e_tabIn (pc := 27) (v := 2) (j := 2) (tgt := 78) dX4_person_27 h12 rfl (by decide) (by decide) rfl (by decide) ?_
            refine e_aload_n (pc := 78) dX4_person_78 rfl rfl ?_
            refine e_getR (pc := 79) dX4_person_79 hs_X4_31 (fun r13 => ?_)
            refine e_iload_n (pc := 82) dX4_person_82 rfl rfl ?_
            refine e_iald (pc := 83) dX4_person_83 (fun x14 => ?_)
            exact e_iret (pc := 84) dX4_person_84 rfl rfl
          · refine e_ite (fun h15 => ?_) (fun h15 => ?_)
            · refine e_tabIn (pc := 27) (v := 3) (j := 3) (tgt := 85) dX4_person_27 h15 rfl (by decide) (by decide) rfl (by decide) ?_
              refine e_aload_n (pc := 85) dX4_person_85 rfl rfl ?_
              refine e_getR (pc := 86) dX4_person_86 hs_X4_34 (fun r16 => ?_)
              refine e_iload_n (pc := 89) dX4_person_89 rfl rfl ?_
              refine e_iald (pc := 90) dX4_person_90 (fun x17 => ?_)
              exact e_iret (pc := 91) dX4_person_91 rfl rfl
            · refine e_ite (fun h18 => ?_) (fun h18 => ?_)
              · refine e_tabIn (pc := 27) (v := 4) (j := 4) (tgt := 92) dX4_person_27 h18 rfl (by decide) (by decide) rfl (by decide) ?_
                refine e_aload_n (pc := 92) dX4_person_92 rfl rfl ?_
                refine e_iload_n (pc := 93) dX4_person_93 rfl rfl ?_
                refine e_callV (pc := 94) (av := [.int a1]) (S := []) (c0 := 3) rfl rfl ok_X4_calledBits ⟨Nat.le_of_ble_eq_true rfl, Nat.le_of_ble_eq_true rfl⟩ hv_X4_253 dX4_person_94 (s_X4_calledBits a0 a1 w4) rfl rfl (Nat.le_of_ble_eq_true rfl) (fun x20 w19 => ?_)
                exact e_iret (pc := 97) dX4_person_97 rfl rfl
              · refine e_ite (fun h21 => ?_) (fun h21 => ?_)
                · refine e_tabIn (pc := 27) (v := 5) (j := 5) (tgt := 98) dX4_person_27 h21 rfl (by decide) (by decide) rfl (by decide) ?_
                  refine e_aload_n (pc := 98) dX4_person_98 rfl rfl ?_
                  refine e_iload_n (pc := 99) dX4_person_99 rfl rfl ?_
                  refine e_callV (pc := 100) (av := [.int a1]) (S := []) (c0 := 3) rfl rfl ok_X4_needBy ⟨Nat.le_of_ble_eq_true rfl, Nat.le_of_ble_eq_true rfl⟩ hv_X4_256 dX4_person_100 (s_X4_needBy a0 a1 w4) rfl rfl (Nat.le_of_ble_eq_true rfl) (fun x23 w22 => ?_)
                  exact e_iret (pc := 103) dX4_person_103 rfl rfl
                · refine e_tabOut (pc := 27) (tgt := 104) dX4_person_27 (by have z0 := lv_neT h6 (show (0 : Int32).toInt = 0 from rfl); have z1 := lv_neT h9 (show (1 : Int32).toInt = 1 from rfl); have z2 := lv_neT h12 (show (2 : Int32).toInt = 2 from rfl); have z3 := lv_neT h15 (show (3 : Int32).toInt = 3 from rfl); have z4 := lv_neT h18 (show (4 : Int32).toInt = 4 from rfl); have z5 := lv_neT h21 (show (5 : Int32).toInt = 5 from rfl); omega) (by decide) ?_
                  refine e_aload_n (pc := 104) dX4_person_104 rfl rfl ?_
                  refine e_iload_n (pc := 105) dX4_person_105 rfl rfl ?_
                  refine e_callV (pc := 106) (av := [.int a1]) (S := []) (c0 := 3) rfl rfl ok_X4_workBy ⟨Nat.le_of_ble_eq_true rfl, Nat.le_of_ble_eq_true rfl⟩ hv_X4_259 dX4_person_106 (s_X4_workBy a0 a1 w4) rfl rfl (Nat.le_of_ble_eq_true rfl) (fun x25 w24 => ?_)
                  exact e_iret (pc := 109) dX4_person_109 rfl rfl
    · refine e_iconst (pc := 24) dX4_person_24 kc_m1 ?_
      exact e_iret (pc := 25) dX4_person_25 rfl rfl
def M_X4_wrongKept : aM := (yX4_wrongKept, cX4_wrongKept, 2, (some .int), 1, 25)
theorem ok_X4_wrongKept : a_okM M_X4_wrongKept 1 := ⟨⟨by decide +kernel, by decide +kernel⟩, by decide +kernel, a_in 1166 (by decide +kernel) rfl, a_in 79 (by decide +kernel) rfl⟩
theorem dX4_wrongKept_0 : decode M_X4_wrongKept.2.1 0 = .ok (.iload_n 1, 1) := by decide +kernel
theorem dX4_wrongKept_1 : decode M_X4_wrongKept.2.1 1 = .ok (.i2l, 1) := by decide +kernel
theorem dX4_wrongKept_2 : decode M_X4_wrongKept.2.1 2 = .ok (.lconst 0, 1) := by decide +kernel
theorem dX4_wrongKept_3 : decode M_X4_wrongKept.2.1 3 = .ok (.ldc2_w 262, 3) := by decide +kernel
theorem dX4_wrongKept_6 : decode M_X4_wrongKept.2.1 6 = .ok (.invokestatic 86, 3) := by decide +kernel
theorem dX4_wrongKept_9 : decode M_X4_wrongKept.2.1 9 = .ok (.ifCond .ne 7, 3) := by decide +kernel
theorem dX4_wrongKept_12 : decode M_X4_wrongKept.2.1 12 = .ok (.iconst (-1), 1) := by decide +kernel
theorem dX4_wrongKept_13 : decode M_X4_wrongKept.2.1 13 = .ok (.goto 33, 3) := by decide +kernel
theorem dX4_wrongKept_16 : decode M_X4_wrongKept.2.1 16 = .ok (.aload_n 0, 1) := by decide +kernel
theorem dX4_wrongKept_17 : decode M_X4_wrongKept.2.1 17 = .ok (.getfield 37, 3) := by decide +kernel
theorem dX4_wrongKept_20 : decode M_X4_wrongKept.2.1 20 = .ok (.iload_n 1, 1) := by decide +kernel
theorem dX4_wrongKept_21 : decode M_X4_wrongKept.2.1 21 = .ok (.iaload, 1) := by decide +kernel
theorem dX4_wrongKept_22 : decode M_X4_wrongKept.2.1 22 = .ok (.ifCond .ne 8, 3) := by decide +kernel
theorem dX4_wrongKept_25 : decode M_X4_wrongKept.2.1 25 = .ok (.bipush (-11), 2) := by decide +kernel
theorem dX4_wrongKept_27 : decode M_X4_wrongKept.2.1 27 = .ok (.goto 19, 3) := by decide +kernel
theorem dX4_wrongKept_30 : decode M_X4_wrongKept.2.1 30 = .ok (.aload_n 0, 1) := by decide +kernel
theorem dX4_wrongKept_31 : decode M_X4_wrongKept.2.1 31 = .ok (.getfield 37, 3) := by decide +kernel
theorem dX4_wrongKept_34 : decode M_X4_wrongKept.2.1 34 = .ok (.iload_n 1, 1) := by decide +kernel
theorem dX4_wrongKept_35 : decode M_X4_wrongKept.2.1 35 = .ok (.iaload, 1) := by decide +kernel
theorem dX4_wrongKept_36 : decode M_X4_wrongKept.2.1 36 = .ok (.iconst 2, 1) := by decide +kernel
theorem dX4_wrongKept_37 : decode M_X4_wrongKept.2.1 37 = .ok (.if_icmp .ne 8, 3) := by decide +kernel
theorem dX4_wrongKept_40 : decode M_X4_wrongKept.2.1 40 = .ok (.bipush (-12), 2) := by decide +kernel
theorem dX4_wrongKept_42 : decode M_X4_wrongKept.2.1 42 = .ok (.goto 4, 3) := by decide +kernel
theorem dX4_wrongKept_45 : decode M_X4_wrongKept.2.1 45 = .ok (.iconst 0, 1) := by decide +kernel
theorem dX4_wrongKept_46 : decode M_X4_wrongKept.2.1 46 = .ok (.ireturn, 1) := by decide +kernel
def f_X4_wrongKept (a0 : Nat) (a1 : Int32) (w : aW) : Option (Int32 × aW) :=
  bk (f_X4_in a1.toInt64 (0 : Int64) (7 : Int64) w) fun x2 w1 =>
  if ¬ x2 = (0 : Int32) then
    (gR 3 w1 a0 13).bind fun r3 =>
    (gA w1 r3 a1).bind fun x4 =>
    if ¬ x4 = (0 : Int32) then
      (gR 3 w1 a0 13).bind fun r5 =>
      (gA w1 r5 a1).bind fun x6 =>
      if ¬ x6 = (2 : Int32) then
        some ((0 : Int32), w1)
      else
        some ((-12 : Int32), w1)
    else
      some ((-11 : Int32), w1)
  else
    some ((-1 : Int32), w1)
theorem s_X4_wrongKept (a0 : Nat) (a1 : Int32) (w : aW) : Sp rvI M_X4_wrongKept [.ref a0, .int a1] w (f_X4_wrongKept a0 a1 w) := by
  refine e_entry [some (.ref a0), some (.int a1)] (by decide +kernel) (Nat.le_of_ble_eq_true rfl) (fun _ => rfl) ?_
  unfold f_X4_wrongKept
  refine e_iload_n (pc := 0) dX4_wrongKept_0 rfl rfl ?_
  refine e_i2l (pc := 1) dX4_wrongKept_1 ?_
  refine e_lconst (pc := 2) (v := 0) dX4_wrongKept_2 (by decide) ?_
  refine e_ldc2 (pc := 3) (v := 7) dX4_wrongKept_3 (a_in 990 (by decide +kernel) rfl) ?_
  refine e_callS (pc := 6) (av := [.long a1.toInt64, .long (0 : Int64), .long (7 : Int64)]) (S := []) ok_X4_in ⟨Nat.le_of_ble_eq_true rfl, Nat.le_of_ble_eq_true rfl⟩ ht_X4_86 dX4_wrongKept_6 (s_X4_in a1.toInt64 (0 : Int64) (7 : Int64) w) rfl rfl (Nat.le_of_ble_eq_true rfl) (fun x2 w1 => ?_)
  refine e_if_ne (pc := 9) (tgt := 16) dX4_wrongKept_9 (by decide) (fun _ => ?_) (fun _ => ?_)
  · refine e_aload_n (pc := 16) dX4_wrongKept_16 rfl rfl ?_
    refine e_getR (pc := 17) dX4_wrongKept_17 hs_X4_37 (fun r3 => ?_)
    refine e_iload_n (pc := 20) dX4_wrongKept_20 rfl rfl ?_
    refine e_iald (pc := 21) dX4_wrongKept_21 (fun x4 => ?_)
    refine e_if_ne (pc := 22) (tgt := 30) dX4_wrongKept_22 (by decide) (fun _ => ?_) (fun _ => ?_)
    · refine e_aload_n (pc := 30) dX4_wrongKept_30 rfl rfl ?_
      refine e_getR (pc := 31) dX4_wrongKept_31 hs_X4_37 (fun r5 => ?_)
      refine e_iload_n (pc := 34) dX4_wrongKept_34 rfl rfl ?_
      refine e_iald (pc := 35) dX4_wrongKept_35 (fun x6 => ?_)
      refine e_iconst (pc := 36) dX4_wrongKept_36 kc_2 ?_
      refine e_icmp_ne (pc := 37) (tgt := 45) dX4_wrongKept_37 (by decide) (fun _ => ?_) (fun _ => ?_)
      · refine e_iconst (pc := 45) dX4_wrongKept_45 kc_0 ?_
        exact e_iret (pc := 46) dX4_wrongKept_46 rfl rfl
      · refine e_bipush (pc := 40) dX4_wrongKept_40 kb_m12 ?_
        refine e_goto (pc := 42) (tgt := 46) dX4_wrongKept_42 (by decide) ?_
        exact e_iret (pc := 46) dX4_wrongKept_46 rfl rfl
    · refine e_bipush (pc := 25) dX4_wrongKept_25 kb_m11 ?_
      refine e_goto (pc := 27) (tgt := 46) dX4_wrongKept_27 (by decide) ?_
      exact e_iret (pc := 46) dX4_wrongKept_46 rfl rfl
  · refine e_iconst (pc := 12) dX4_wrongKept_12 kc_m1 ?_
    refine e_goto (pc := 13) (tgt := 46) dX4_wrongKept_13 (by decide) ?_
    exact e_iret (pc := 46) dX4_wrongKept_46 rfl rfl
def M_X4_comes : aM := (yX4_comes, cX4_comes, 3, (some .int), 3, 69)
theorem ok_X4_comes : a_okM M_X4_comes 2 := ⟨⟨by decide +kernel, by decide +kernel⟩, by decide +kernel, a_in 1162 (by decide +kernel) rfl, a_in 79 (by decide +kernel) rfl⟩
theorem dX4_comes_0 : decode M_X4_comes.2.1 0 = .ok (.aload_n 0, 1) := by decide +kernel
theorem dX4_comes_1 : decode M_X4_comes.2.1 1 = .ok (.iconst 0, 1) := by decide +kernel
theorem dX4_comes_2 : decode M_X4_comes.2.1 2 = .ok (.putfield 80, 3) := by decide +kernel
theorem dX4_comes_5 : decode M_X4_comes.2.1 5 = .ok (.iload_n 1, 1) := by decide +kernel
theorem dX4_comes_6 : decode M_X4_comes.2.1 6 = .ok (.i2l, 1) := by decide +kernel
theorem dX4_comes_7 : decode M_X4_comes.2.1 7 = .ok (.lconst 0, 1) := by decide +kernel
theorem dX4_comes_8 : decode M_X4_comes.2.1 8 = .ok (.ldc2_w 262, 3) := by decide +kernel
theorem dX4_comes_11 : decode M_X4_comes.2.1 11 = .ok (.invokestatic 86, 3) := by decide +kernel
theorem dX4_comes_14 : decode M_X4_comes.2.1 14 = .ok (.ifCond .eq 10, 3) := by decide +kernel
theorem dX4_comes_17 : decode M_X4_comes.2.1 17 = .ok (.iload_n 2, 1) := by decide +kernel
theorem dX4_comes_18 : decode M_X4_comes.2.1 18 = .ok (.invokestatic 182, 3) := by decide +kernel
theorem dX4_comes_21 : decode M_X4_comes.2.1 21 = .ok (.ifCond .ne 5, 3) := by decide +kernel
theorem dX4_comes_24 : decode M_X4_comes.2.1 24 = .ok (.iconst (-1), 1) := by decide +kernel
theorem dX4_comes_25 : decode M_X4_comes.2.1 25 = .ok (.ireturn, 1) := by decide +kernel
theorem dX4_comes_26 : decode M_X4_comes.2.1 26 = .ok (.aload_n 0, 1) := by decide +kernel
theorem dX4_comes_27 : decode M_X4_comes.2.1 27 = .ok (.iload_n 1, 1) := by decide +kernel
theorem dX4_comes_28 : decode M_X4_comes.2.1 28 = .ok (.invokevirtual 264, 3) := by decide +kernel
theorem dX4_comes_31 : decode M_X4_comes.2.1 31 = .ok (.ifCond .lt 12, 3) := by decide +kernel
theorem dX4_comes_34 : decode M_X4_comes.2.1 34 = .ok (.aload_n 0, 1) := by decide +kernel
theorem dX4_comes_35 : decode M_X4_comes.2.1 35 = .ok (.getfield 92, 3) := by decide +kernel
theorem dX4_comes_38 : decode M_X4_comes.2.1 38 = .ok (.bipush 9, 2) := by decide +kernel
theorem dX4_comes_40 : decode M_X4_comes.2.1 40 = .ok (.if_icmp .ne 22, 3) := by decide +kernel
theorem dX4_comes_43 : decode M_X4_comes.2.1 43 = .ok (.aload_n 0, 1) := by decide +kernel
theorem dX4_comes_44 : decode M_X4_comes.2.1 44 = .ok (.iload_n 1, 1) := by decide +kernel
theorem dX4_comes_45 : decode M_X4_comes.2.1 45 = .ok (.invokevirtual 264, 3) := by decide +kernel
theorem dX4_comes_48 : decode M_X4_comes.2.1 48 = .ok (.ifCond .ge 11, 3) := by decide +kernel
theorem dX4_comes_51 : decode M_X4_comes.2.1 51 = .ok (.aload_n 0, 1) := by decide +kernel
theorem dX4_comes_52 : decode M_X4_comes.2.1 52 = .ok (.iload_n 1, 1) := by decide +kernel
theorem dX4_comes_53 : decode M_X4_comes.2.1 53 = .ok (.invokevirtual 264, 3) := by decide +kernel
theorem dX4_comes_56 : decode M_X4_comes.2.1 56 = .ok (.goto 5, 3) := by decide +kernel
theorem dX4_comes_59 : decode M_X4_comes.2.1 59 = .ok (.bipush (-2), 2) := by decide +kernel
theorem dX4_comes_61 : decode M_X4_comes.2.1 61 = .ok (.ireturn, 1) := by decide +kernel
theorem dX4_comes_62 : decode M_X4_comes.2.1 62 = .ok (.aload_n 0, 1) := by decide +kernel
theorem dX4_comes_63 : decode M_X4_comes.2.1 63 = .ok (.aload_n 0, 1) := by decide +kernel
theorem dX4_comes_64 : decode M_X4_comes.2.1 64 = .ok (.getfield 40, 3) := by decide +kernel
theorem dX4_comes_67 : decode M_X4_comes.2.1 67 = .ok (.iload_n 1, 1) := by decide +kernel
theorem dX4_comes_68 : decode M_X4_comes.2.1 68 = .ok (.iaload, 1) := by decide +kernel
theorem dX4_comes_69 : decode M_X4_comes.2.1 69 = .ok (.aload_n 0, 1) := by decide +kernel
theorem dX4_comes_70 : decode M_X4_comes.2.1 70 = .ok (.getfield 43, 3) := by decide +kernel
theorem dX4_comes_73 : decode M_X4_comes.2.1 73 = .ok (.iload_n 1, 1) := by decide +kernel
theorem dX4_comes_74 : decode M_X4_comes.2.1 74 = .ok (.iaload, 1) := by decide +kernel
theorem dX4_comes_75 : decode M_X4_comes.2.1 75 = .ok (.iload_n 2, 1) := by decide +kernel
theorem dX4_comes_76 : decode M_X4_comes.2.1 76 = .ok (.invokevirtual 196, 3) := by decide +kernel
theorem dX4_comes_79 : decode M_X4_comes.2.1 79 = .ok (.pop, 1) := by decide +kernel
theorem dX4_comes_80 : decode M_X4_comes.2.1 80 = .ok (.aload_n 0, 1) := by decide +kernel
theorem dX4_comes_81 : decode M_X4_comes.2.1 81 = .ok (.getfield 92, 3) := by decide +kernel
theorem dX4_comes_84 : decode M_X4_comes.2.1 84 = .ok (.iconst 1, 1) := by decide +kernel
theorem dX4_comes_85 : decode M_X4_comes.2.1 85 = .ok (.isub, 1) := by decide +kernel
theorem dX4_comes_86 : decode M_X4_comes.2.1 86 = .ok (.ireturn, 1) := by decide +kernel
theorem hv_X4_264 : a_okV RX4 M_X4_wrongKept 264 := ⟨a_in 1163 (by decide +kernel) rfl, a_in 1165 (by decide +kernel) rfl, a_in 54 (by decide +kernel) rfl⟩
theorem hs_X4_40 : a_fs RX4 40 3 14 := ⟨RX4, TX4, 37, rfl, tin_X4, by decide, a_in 879 (by decide +kernel) rfl⟩
theorem hs_X4_43 : a_fs RX4 43 3 15 := ⟨RX4, TX4, 37, rfl, tin_X4, by decide, a_in 880 (by decide +kernel) rfl⟩
def c_X4_comes_43 (a0 : Nat) (a1 : Int32) (a2 : Int32) (w : aW) : Option (Int32 × aW) :=
  cV 3 w a0 (bk (f_X4_wrongKept a0 a1 w) fun x17 w16 =>
  if (0 : Int32) ≤ x17 then
    some ((-2 : Int32), w16)
  else
    cV 3 w16 a0 (bk (f_X4_wrongKept a0 a1 w16) fun x19 w18 =>
    some (x19, w18)))
theorem t_X4_comes_43 (a0 : Nat) (a1 : Int32) (a2 : Int32) (w : aW) : Ev rvI M_X4_comes 43 [some (.ref a0), some (.int a1), none] [] w (c_X4_comes_43 a0 a1 a2 w) := by
  unfold c_X4_comes_43
  refine e_aload_n (pc := 43) dX4_comes_43 rfl rfl ?_
  refine e_iload_n (pc := 44) dX4_comes_44 rfl rfl ?_
  refine e_callV (pc := 45) (av := [.int a1]) (S := []) (c0 := 3) rfl rfl ok_X4_wrongKept ⟨Nat.le_of_ble_eq_true rfl, Nat.le_of_ble_eq_true rfl⟩ hv_X4_264 dX4_comes_45 (s_X4_wrongKept a0 a1 w) rfl rfl (Nat.le_of_ble_eq_true rfl) (fun x17 w16 => ?_)
  refine e_if_ge (pc := 48) (tgt := 59) dX4_comes_48 (by decide) (fun _ => ?_) (fun _ => ?_)
  · refine e_bipush (pc := 59) dX4_comes_59 kb_m2 ?_
    exact e_iret (pc := 61) dX4_comes_61 rfl rfl
  · refine e_aload_n (pc := 51) dX4_comes_51 rfl rfl ?_
    refine e_iload_n (pc := 52) dX4_comes_52 rfl rfl ?_
    refine e_callV (pc := 53) (av := [.int a1]) (S := []) (c0 := 3) rfl rfl ok_X4_wrongKept ⟨Nat.le_of_ble_eq_true rfl, Nat.le_of_ble_eq_true rfl⟩ hv_X4_264 dX4_comes_53 (s_X4_wrongKept a0 a1 w16) rfl rfl (Nat.le_of_ble_eq_true rfl) (fun x19 w18 => ?_)
    refine e_goto (pc := 56) (tgt := 61) dX4_comes_56 (by decide) ?_
    exact e_iret (pc := 61) dX4_comes_61 rfl rfl
def f_X4_comes (a0 : Nat) (a1 : Int32) (a2 : Int32) (w : aW) : Option (Int32 × aW) :=
  (sF 3 w a0 19 (.int (0 : Int32))).bind fun w1 =>
  bk (f_X4_in a1.toInt64 (0 : Int64) (7 : Int64) w1) fun x3 w2 =>
  if x3 = (0 : Int32) then
    some ((-1 : Int32), w2)
  else
    bk (f_X4_isPlace a2 w2) fun x5 w4 =>
    if ¬ x5 = (0 : Int32) then
      cV 3 w4 a0 (bk (f_X4_wrongKept a0 a1 w4) fun x7 w6 =>
      if x7 < (0 : Int32) then
        c_X4_comes_43 a0 a1 a2 w6
      else
        (gI 3 w6 a0 0).bind fun x8 =>
        if ¬ x8 = (9 : Int32) then
          (gR 3 w6 a0 14).bind fun r9 =>
          (gA w6 r9 a1).bind fun x10 =>
          (gR 3 w6 a0 15).bind fun r11 =>
          (gA w6 r11 a1).bind fun x12 =>
          cV 3 w6 a0 (bk (f_X4_beastComes a0 x10 x12 a2 w6) fun x14 w13 =>
          (gI 3 w13 a0 0).bind fun x15 =>
          some ((x15 - (1 : Int32)), w13))
        else
          c_X4_comes_43 a0 a1 a2 w6)
    else
      some ((-1 : Int32), w4)
theorem s_X4_comes (a0 : Nat) (a1 : Int32) (a2 : Int32) (w : aW) : Sp rvI M_X4_comes [.ref a0, .int a1, .int a2] w (f_X4_comes a0 a1 a2 w) := by
  refine e_entry [some (.ref a0), some (.int a1), some (.int a2)] (by decide +kernel) (Nat.le_of_ble_eq_true rfl) (fun _ => rfl) ?_
  unfold f_X4_comes
  refine e_aload_n (pc := 0) dX4_comes_0 rfl rfl ?_
  refine e_iconst (pc := 1) dX4_comes_1 kc_0 ?_
  refine e_put (pc := 2) dX4_comes_2 hw_X4_80 (fun _ => rfl) (fun _ => rfl) (fun w1 => ?_)
  refine e_iload_n (pc := 5) dX4_comes_5 rfl rfl ?_
  refine e_i2l (pc := 6) dX4_comes_6 ?_
  refine e_lconst (pc := 7) (v := 0) dX4_comes_7 (by decide) ?_
  refine e_ldc2 (pc := 8) (v := 7) dX4_comes_8 (a_in 990 (by decide +kernel) rfl) ?_
  refine e_callS (pc := 11) (av := [.long a1.toInt64, .long (0 : Int64), .long (7 : Int64)]) (S := []) ok_X4_in ⟨Nat.le_of_ble_eq_true rfl, Nat.le_of_ble_eq_true rfl⟩ ht_X4_86 dX4_comes_11 (s_X4_in a1.toInt64 (0 : Int64) (7 : Int64) w1) rfl rfl (Nat.le_of_ble_eq_true rfl) (fun x3 w2 => ?_)
  refine e_if_eq (pc := 14) (tgt := 24) dX4_comes_14 (by decide) (fun _ => ?_) (fun _ => ?_)
  · refine e_iconst (pc := 24) dX4_comes_24 kc_m1 ?_
    exact e_iret (pc := 25) dX4_comes_25 rfl rfl
  · refine e_iload_n (pc := 17) dX4_comes_17 rfl rfl ?_
    refine e_callS (pc := 18) (av := [.int a2]) (S := []) ok_X4_isPlace ⟨Nat.le_of_ble_eq_true rfl, Nat.le_of_ble_eq_true rfl⟩ ht_X4_182 dX4_comes_18 (s_X4_isPlace a2 w2) rfl rfl (Nat.le_of_ble_eq_true rfl) (fun x5 w4 => ?_)
    refine e_if_ne (pc := 21) (tgt := 26) dX4_comes_21 (by decide) (fun _ => ?_) (fun _ => ?_)
    · refine e_aload_n (pc := 26) dX4_comes_26 rfl rfl ?_
      refine e_iload_n (pc := 27) dX4_comes_27 rfl rfl ?_
      refine e_callV (pc := 28) (av := [.int a1]) (S := []) (c0 := 3) rfl rfl ok_X4_wrongKept ⟨Nat.le_of_ble_eq_true rfl, Nat.le_of_ble_eq_true rfl⟩ hv_X4_264 dX4_comes_28 (s_X4_wrongKept a0 a1 w4) rfl rfl (Nat.le_of_ble_eq_true rfl) (fun x7 w6 => ?_)
      refine e_if_lt (pc := 31) (tgt := 43) dX4_comes_31 (by decide) (fun _ => ?_) (fun _ => ?_)
      · refine e_forget (L2 := [some (.ref a0), some (.int a1), none]) (And.intro rfl (And.intro rfl trivial)) ?_
        exact t_X4_comes_43 a0 a1 a2 w6
      · refine e_aload_n (pc := 34) dX4_comes_34 rfl rfl ?_
        refine e_getI (pc := 35) dX4_comes_35 hs_X4_92 (fun x8 => ?_)
        refine e_bipush (pc := 38) dX4_comes_38 kb_9 ?_
        refine e_icmp_ne (pc := 40) (tgt := 62) dX4_comes_40 (by decide) (fun _ => ?_) (fun _ => ?_)
        · refine e_aload_n (pc := 62) dX4_comes_62 rfl rfl ?_
          refine e_aload_n (pc := 63) dX4_comes_63 rfl rfl ?_
          refine e_getR (pc := 64) dX4_comes_64 hs_X4_40 (fun r9 => ?_)
          refine e_iload_n (pc := 67) dX4_comes_67 rfl rfl ?_
          refine e_iald (pc := 68) dX4_comes_68 (fun x10 => ?_)
          refine e_aload_n (pc := 69) dX4_comes_69 rfl rfl ?_
          refine e_getR (pc := 70) dX4_comes_70 hs_X4_43 (fun r11 => ?_)
          refine e_iload_n (pc := 73) dX4_comes_73 rfl rfl ?_
          refine e_iald (pc := 74) dX4_comes_74 (fun x12 => ?_)
          refine e_iload_n (pc := 75) dX4_comes_75 rfl rfl ?_
          refine e_callV (pc := 76) (av := [.int x10, .int x12, .int a2]) (S := []) (c0 := 3) rfl rfl ok_X4_beastComes ⟨Nat.le_of_ble_eq_true rfl, Nat.le_of_ble_eq_true rfl⟩ hv_X4_196 dX4_comes_76 (s_X4_beastComes a0 x10 x12 a2 w6) rfl rfl (Nat.le_of_ble_eq_true rfl) (fun x14 w13 => ?_)
          refine e_pop (pc := 79) dX4_comes_79 rfl ?_
          refine e_aload_n (pc := 80) dX4_comes_80 rfl rfl ?_
          refine e_getI (pc := 81) dX4_comes_81 hs_X4_92 (fun x15 => ?_)
          refine e_iconst (pc := 84) dX4_comes_84 kc_1 ?_
          refine e_isub (pc := 85) dX4_comes_85 ?_
          exact e_iret (pc := 86) dX4_comes_86 rfl rfl
        · refine e_forget (L2 := [some (.ref a0), some (.int a1), none]) (And.intro rfl (And.intro rfl trivial)) ?_
          exact t_X4_comes_43 a0 a1 a2 w6
    · refine e_iconst (pc := 24) dX4_comes_24 kc_m1 ?_
      exact e_iret (pc := 25) dX4_comes_25 rfl rfl
def M_X4_stands : aM := (yX4_stands, cX4_stands, 4, (some .int), 2, 46)
theorem ok_X4_stands : a_okM M_X4_stands 2 := ⟨⟨by decide +kernel, by decide +kernel⟩, by decide +kernel, a_in 1170 (by decide +kernel) rfl, a_in 79 (by decide +kernel) rfl⟩
theorem dX4_stands_0 : decode M_X4_stands.2.1 0 = .ok (.aload_n 0, 1) := by decide +kernel
theorem dX4_stands_1 : decode M_X4_stands.2.1 1 = .ok (.iconst 0, 1) := by decide +kernel
theorem dX4_stands_2 : decode M_X4_stands.2.1 2 = .ok (.putfield 80, 3) := by decide +kernel
theorem dX4_stands_5 : decode M_X4_stands.2.1 5 = .ok (.aload_n 0, 1) := by decide +kernel
theorem dX4_stands_6 : decode M_X4_stands.2.1 6 = .ok (.iload_n 1, 1) := by decide +kernel
theorem dX4_stands_7 : decode M_X4_stands.2.1 7 = .ok (.invokevirtual 185, 3) := by decide +kernel
theorem dX4_stands_10 : decode M_X4_stands.2.1 10 = .ok (.ifCond .eq 10, 3) := by decide +kernel
theorem dX4_stands_13 : decode M_X4_stands.2.1 13 = .ok (.iload_n 2, 1) := by decide +kernel
theorem dX4_stands_14 : decode M_X4_stands.2.1 14 = .ok (.invokestatic 182, 3) := by decide +kernel
theorem dX4_stands_17 : decode M_X4_stands.2.1 17 = .ok (.ifCond .ne 5, 3) := by decide +kernel
theorem dX4_stands_20 : decode M_X4_stands.2.1 20 = .ok (.iconst (-1), 1) := by decide +kernel
theorem dX4_stands_21 : decode M_X4_stands.2.1 21 = .ok (.ireturn, 1) := by decide +kernel
theorem dX4_stands_22 : decode M_X4_stands.2.1 22 = .ok (.aload_n 0, 1) := by decide +kernel
theorem dX4_stands_23 : decode M_X4_stands.2.1 23 = .ok (.getfield 107, 3) := by decide +kernel
theorem dX4_stands_26 : decode M_X4_stands.2.1 26 = .ok (.iload_n 1, 1) := by decide +kernel
theorem dX4_stands_27 : decode M_X4_stands.2.1 27 = .ok (.invokestatic 110, 3) := by decide +kernel
theorem dX4_stands_30 : decode M_X4_stands.2.1 30 = .ok (.ifCond .ne 6, 3) := by decide +kernel
theorem dX4_stands_33 : decode M_X4_stands.2.1 33 = .ok (.bipush (-3), 2) := by decide +kernel
theorem dX4_stands_35 : decode M_X4_stands.2.1 35 = .ok (.ireturn, 1) := by decide +kernel
theorem dX4_stands_36 : decode M_X4_stands.2.1 36 = .ok (.aload_n 0, 1) := by decide +kernel
theorem dX4_stands_37 : decode M_X4_stands.2.1 37 = .ok (.getfield 16, 3) := by decide +kernel
theorem dX4_stands_40 : decode M_X4_stands.2.1 40 = .ok (.iload_n 1, 1) := by decide +kernel
theorem dX4_stands_41 : decode M_X4_stands.2.1 41 = .ok (.iaload, 1) := by decide +kernel
theorem dX4_stands_42 : decode M_X4_stands.2.1 42 = .ok (.istore_n 3, 1) := by decide +kernel
theorem dX4_stands_43 : decode M_X4_stands.2.1 43 = .ok (.aload_n 0, 1) := by decide +kernel
theorem dX4_stands_44 : decode M_X4_stands.2.1 44 = .ok (.getfield 16, 3) := by decide +kernel
theorem dX4_stands_47 : decode M_X4_stands.2.1 47 = .ok (.iload_n 1, 1) := by decide +kernel
theorem dX4_stands_48 : decode M_X4_stands.2.1 48 = .ok (.iload_n 2, 1) := by decide +kernel
theorem dX4_stands_49 : decode M_X4_stands.2.1 49 = .ok (.iastore, 1) := by decide +kernel
theorem dX4_stands_50 : decode M_X4_stands.2.1 50 = .ok (.iload_n 3, 1) := by decide +kernel
theorem dX4_stands_51 : decode M_X4_stands.2.1 51 = .ok (.ireturn, 1) := by decide +kernel
def f_X4_stands (a0 : Nat) (a1 : Int32) (a2 : Int32) (w : aW) : Option (Int32 × aW) :=
  (sF 3 w a0 19 (.int (0 : Int32))).bind fun w1 =>
  cV 3 w1 a0 (bk (f_X4_isBeast a0 a1 w1) fun x3 w2 =>
  if x3 = (0 : Int32) then
    some ((-1 : Int32), w2)
  else
    bk (f_X4_isPlace a2 w2) fun x5 w4 =>
    if ¬ x5 = (0 : Int32) then
      (gI 3 w4 a0 6).bind fun x6 =>
      bk (f_X4_hasBit x6 a1 w4) fun x8 w7 =>
      if ¬ x8 = (0 : Int32) then
        (gR 3 w7 a0 3).bind fun r9 =>
        (gA w7 r9 a1).bind fun x10 =>
        (gR 3 w7 a0 3).bind fun r11 =>
        (sA w7 r11 a1 a2).bind fun w12 =>
        some (x10, w12)
      else
        some ((-3 : Int32), w7)
    else
      some ((-1 : Int32), w4))
theorem s_X4_stands (a0 : Nat) (a1 : Int32) (a2 : Int32) (w : aW) : Sp rvI M_X4_stands [.ref a0, .int a1, .int a2] w (f_X4_stands a0 a1 a2 w) := by
  refine e_entry [some (.ref a0), some (.int a1), some (.int a2), none] (by decide +kernel) (Nat.le_of_ble_eq_true rfl) (fun _ => rfl) ?_
  unfold f_X4_stands
  refine e_aload_n (pc := 0) dX4_stands_0 rfl rfl ?_
  refine e_iconst (pc := 1) dX4_stands_1 kc_0 ?_
  refine e_put (pc := 2) dX4_stands_2 hw_X4_80 (fun _ => rfl) (fun _ => rfl) (fun w1 => ?_)
  refine e_aload_n (pc := 5) dX4_stands_5 rfl rfl ?_
  refine e_iload_n (pc := 6) dX4_stands_6 rfl rfl ?_
  refine e_callV (pc := 7) (av := [.int a1]) (S := []) (c0 := 3) rfl rfl ok_X4_isBeast ⟨Nat.le_of_ble_eq_true rfl, Nat.le_of_ble_eq_true rfl⟩ hv_X4_185 dX4_stands_7 (s_X4_isBeast a0 a1 w1) rfl rfl (Nat.le_of_ble_eq_true rfl) (fun x3 w2 => ?_)
  refine e_if_eq (pc := 10) (tgt := 20) dX4_stands_10 (by decide) (fun _ => ?_) (fun _ => ?_)
  · refine e_iconst (pc := 20) dX4_stands_20 kc_m1 ?_
    exact e_iret (pc := 21) dX4_stands_21 rfl rfl
  · refine e_iload_n (pc := 13) dX4_stands_13 rfl rfl ?_
    refine e_callS (pc := 14) (av := [.int a2]) (S := []) ok_X4_isPlace ⟨Nat.le_of_ble_eq_true rfl, Nat.le_of_ble_eq_true rfl⟩ ht_X4_182 dX4_stands_14 (s_X4_isPlace a2 w2) rfl rfl (Nat.le_of_ble_eq_true rfl) (fun x5 w4 => ?_)
    refine e_if_ne (pc := 17) (tgt := 22) dX4_stands_17 (by decide) (fun _ => ?_) (fun _ => ?_)
    · refine e_aload_n (pc := 22) dX4_stands_22 rfl rfl ?_
      refine e_getI (pc := 23) dX4_stands_23 hs_X4_107 (fun x6 => ?_)
      refine e_iload_n (pc := 26) dX4_stands_26 rfl rfl ?_
      refine e_callS (pc := 27) (av := [.int x6, .int a1]) (S := []) ok_X4_hasBit ⟨Nat.le_of_ble_eq_true rfl, Nat.le_of_ble_eq_true rfl⟩ ht_X4_110 dX4_stands_27 (s_X4_hasBit x6 a1 w4) rfl rfl (Nat.le_of_ble_eq_true rfl) (fun x8 w7 => ?_)
      refine e_if_ne (pc := 30) (tgt := 36) dX4_stands_30 (by decide) (fun _ => ?_) (fun _ => ?_)
      · refine e_aload_n (pc := 36) dX4_stands_36 rfl rfl ?_
        refine e_getR (pc := 37) dX4_stands_37 hs_X4_16 (fun r9 => ?_)
        refine e_iload_n (pc := 40) dX4_stands_40 rfl rfl ?_
        refine e_iald (pc := 41) dX4_stands_41 (fun x10 => ?_)
        refine e_istore_n (L' := [some (.ref a0), some (.int a1), some (.int a2), some (.int x10)]) (pc := 42) dX4_stands_42 rfl (by decide) rfl ?_
        refine e_aload_n (pc := 43) dX4_stands_43 rfl rfl ?_
        refine e_getR (pc := 44) dX4_stands_44 hs_X4_16 (fun r11 => ?_)
        refine e_iload_n (pc := 47) dX4_stands_47 rfl rfl ?_
        refine e_iload_n (pc := 48) dX4_stands_48 rfl rfl ?_
        refine e_iast (pc := 49) dX4_stands_49 (fun w12 => ?_)
        refine e_iload_n (pc := 50) dX4_stands_50 rfl rfl ?_
        exact e_iret (pc := 51) dX4_stands_51 rfl rfl
      · refine e_bipush (pc := 33) dX4_stands_33 kb_m3 ?_
        exact e_iret (pc := 35) dX4_stands_35 rfl rfl
    · refine e_iconst (pc := 20) dX4_stands_20 kc_m1 ?_
      exact e_iret (pc := 21) dX4_stands_21 rfl rfl
def M_X4_walks : aM := (yX4_walks, cX4_walks, 4, (some .int), 2, 45)
theorem ok_X4_walks : a_okM M_X4_walks 2 := ⟨⟨by decide +kernel, by decide +kernel⟩, by decide +kernel, a_in 1174 (by decide +kernel) rfl, a_in 79 (by decide +kernel) rfl⟩
theorem dX4_walks_0 : decode M_X4_walks.2.1 0 = .ok (.aload_n 0, 1) := by decide +kernel
theorem dX4_walks_1 : decode M_X4_walks.2.1 1 = .ok (.iconst 0, 1) := by decide +kernel
theorem dX4_walks_2 : decode M_X4_walks.2.1 2 = .ok (.putfield 80, 3) := by decide +kernel
theorem dX4_walks_5 : decode M_X4_walks.2.1 5 = .ok (.iload_n 1, 1) := by decide +kernel
theorem dX4_walks_6 : decode M_X4_walks.2.1 6 = .ok (.invokestatic 188, 3) := by decide +kernel
theorem dX4_walks_9 : decode M_X4_walks.2.1 9 = .ok (.ifCond .eq 10, 3) := by decide +kernel
theorem dX4_walks_12 : decode M_X4_walks.2.1 12 = .ok (.iload_n 2, 1) := by decide +kernel
theorem dX4_walks_13 : decode M_X4_walks.2.1 13 = .ok (.invokestatic 182, 3) := by decide +kernel
theorem dX4_walks_16 : decode M_X4_walks.2.1 16 = .ok (.ifCond .ne 5, 3) := by decide +kernel
theorem dX4_walks_19 : decode M_X4_walks.2.1 19 = .ok (.iconst (-1), 1) := by decide +kernel
theorem dX4_walks_20 : decode M_X4_walks.2.1 20 = .ok (.ireturn, 1) := by decide +kernel
theorem dX4_walks_21 : decode M_X4_walks.2.1 21 = .ok (.aload_n 0, 1) := by decide +kernel
theorem dX4_walks_22 : decode M_X4_walks.2.1 22 = .ok (.getfield 28, 3) := by decide +kernel
theorem dX4_walks_25 : decode M_X4_walks.2.1 25 = .ok (.iload_n 1, 1) := by decide +kernel
theorem dX4_walks_26 : decode M_X4_walks.2.1 26 = .ok (.iaload, 1) := by decide +kernel
theorem dX4_walks_27 : decode M_X4_walks.2.1 27 = .ok (.istore_n 3, 1) := by decide +kernel
theorem dX4_walks_28 : decode M_X4_walks.2.1 28 = .ok (.aload_n 0, 1) := by decide +kernel
theorem dX4_walks_29 : decode M_X4_walks.2.1 29 = .ok (.getfield 28, 3) := by decide +kernel
theorem dX4_walks_32 : decode M_X4_walks.2.1 32 = .ok (.iload_n 1, 1) := by decide +kernel
theorem dX4_walks_33 : decode M_X4_walks.2.1 33 = .ok (.iload_n 2, 1) := by decide +kernel
theorem dX4_walks_34 : decode M_X4_walks.2.1 34 = .ok (.iastore, 1) := by decide +kernel
theorem dX4_walks_35 : decode M_X4_walks.2.1 35 = .ok (.iload_n 3, 1) := by decide +kernel
theorem dX4_walks_36 : decode M_X4_walks.2.1 36 = .ok (.ireturn, 1) := by decide +kernel
def f_X4_walks (a0 : Nat) (a1 : Int32) (a2 : Int32) (w : aW) : Option (Int32 × aW) :=
  (sF 3 w a0 19 (.int (0 : Int32))).bind fun w1 =>
  bk (f_X4_isPerson a1 w1) fun x3 w2 =>
  if x3 = (0 : Int32) then
    some ((-1 : Int32), w2)
  else
    bk (f_X4_isPlace a2 w2) fun x5 w4 =>
    if ¬ x5 = (0 : Int32) then
      (gR 3 w4 a0 8).bind fun r6 =>
      (gA w4 r6 a1).bind fun x7 =>
      (gR 3 w4 a0 8).bind fun r8 =>
      (sA w4 r8 a1 a2).bind fun w9 =>
      some (x7, w9)
    else
      some ((-1 : Int32), w4)
theorem s_X4_walks (a0 : Nat) (a1 : Int32) (a2 : Int32) (w : aW) : Sp rvI M_X4_walks [.ref a0, .int a1, .int a2] w (f_X4_walks a0 a1 a2 w) := by
  refine e_entry [some (.ref a0), some (.int a1), some (.int a2), none] (by decide +kernel) (Nat.le_of_ble_eq_true rfl) (fun _ => rfl) ?_
  unfold f_X4_walks
  refine e_aload_n (pc := 0) dX4_walks_0 rfl rfl ?_
  refine e_iconst (pc := 1) dX4_walks_1 kc_0 ?_
  refine e_put (pc := 2) dX4_walks_2 hw_X4_80 (fun _ => rfl) (fun _ => rfl) (fun w1 => ?_)
  refine e_iload_n (pc := 5) dX4_walks_5 rfl rfl ?_
  refine e_callS (pc := 6) (av := [.int a1]) (S := []) ok_X4_isPerson ⟨Nat.le_of_ble_eq_true rfl, Nat.le_of_ble_eq_true rfl⟩ ht_X4_188 dX4_walks_6 (s_X4_isPerson a1 w1) rfl rfl (Nat.le_of_ble_eq_true rfl) (fun x3 w2 => ?_)
  refine e_if_eq (pc := 9) (tgt := 19) dX4_walks_9 (by decide) (fun _ => ?_) (fun _ => ?_)
  · refine e_iconst (pc := 19) dX4_walks_19 kc_m1 ?_
    exact e_iret (pc := 20) dX4_walks_20 rfl rfl
  · refine e_iload_n (pc := 12) dX4_walks_12 rfl rfl ?_
    refine e_callS (pc := 13) (av := [.int a2]) (S := []) ok_X4_isPlace ⟨Nat.le_of_ble_eq_true rfl, Nat.le_of_ble_eq_true rfl⟩ ht_X4_182 dX4_walks_13 (s_X4_isPlace a2 w2) rfl rfl (Nat.le_of_ble_eq_true rfl) (fun x5 w4 => ?_)
    refine e_if_ne (pc := 16) (tgt := 21) dX4_walks_16 (by decide) (fun _ => ?_) (fun _ => ?_)
    · refine e_aload_n (pc := 21) dX4_walks_21 rfl rfl ?_
      refine e_getR (pc := 22) dX4_walks_22 hs_X4_28 (fun r6 => ?_)
      refine e_iload_n (pc := 25) dX4_walks_25 rfl rfl ?_
      refine e_iald (pc := 26) dX4_walks_26 (fun x7 => ?_)
      refine e_istore_n (L' := [some (.ref a0), some (.int a1), some (.int a2), some (.int x7)]) (pc := 27) dX4_walks_27 rfl (by decide) rfl ?_
      refine e_aload_n (pc := 28) dX4_walks_28 rfl rfl ?_
      refine e_getR (pc := 29) dX4_walks_29 hs_X4_28 (fun r8 => ?_)
      refine e_iload_n (pc := 32) dX4_walks_32 rfl rfl ?_
      refine e_iload_n (pc := 33) dX4_walks_33 rfl rfl ?_
      refine e_iast (pc := 34) dX4_walks_34 (fun w9 => ?_)
      refine e_iload_n (pc := 35) dX4_walks_35 rfl rfl ?_
      exact e_iret (pc := 36) dX4_walks_36 rfl rfl
    · refine e_iconst (pc := 19) dX4_walks_19 kc_m1 ?_
      exact e_iret (pc := 20) dX4_walks_20 rfl rfl
def M_X4_calls : aM := (yX4_calls, cX4_calls, 4, (some .int), 2, 46)
theorem ok_X4_calls : a_okM M_X4_calls 2 := ⟨⟨by decide +kernel, by decide +kernel⟩, by decide +kernel, a_in 1178 (by decide +kernel) rfl, a_in 79 (by decide +kernel) rfl⟩
theorem dX4_calls_0 : decode M_X4_calls.2.1 0 = .ok (.aload_n 0, 1) := by decide +kernel
theorem dX4_calls_1 : decode M_X4_calls.2.1 1 = .ok (.iconst 0, 1) := by decide +kernel
theorem dX4_calls_2 : decode M_X4_calls.2.1 2 = .ok (.putfield 80, 3) := by decide +kernel
theorem dX4_calls_5 : decode M_X4_calls.2.1 5 = .ok (.iload_n 1, 1) := by decide +kernel
theorem dX4_calls_6 : decode M_X4_calls.2.1 6 = .ok (.invokestatic 188, 3) := by decide +kernel
theorem dX4_calls_9 : decode M_X4_calls.2.1 9 = .ok (.ifCond .eq 11, 3) := by decide +kernel
theorem dX4_calls_12 : decode M_X4_calls.2.1 12 = .ok (.aload_n 0, 1) := by decide +kernel
theorem dX4_calls_13 : decode M_X4_calls.2.1 13 = .ok (.iload_n 2, 1) := by decide +kernel
theorem dX4_calls_14 : decode M_X4_calls.2.1 14 = .ok (.invokevirtual 185, 3) := by decide +kernel
theorem dX4_calls_17 : decode M_X4_calls.2.1 17 = .ok (.ifCond .ne 5, 3) := by decide +kernel
theorem dX4_calls_20 : decode M_X4_calls.2.1 20 = .ok (.iconst (-1), 1) := by decide +kernel
theorem dX4_calls_21 : decode M_X4_calls.2.1 21 = .ok (.ireturn, 1) := by decide +kernel
theorem dX4_calls_22 : decode M_X4_calls.2.1 22 = .ok (.aload_n 0, 1) := by decide +kernel
theorem dX4_calls_23 : decode M_X4_calls.2.1 23 = .ok (.getfield 107, 3) := by decide +kernel
theorem dX4_calls_26 : decode M_X4_calls.2.1 26 = .ok (.iload_n 2, 1) := by decide +kernel
theorem dX4_calls_27 : decode M_X4_calls.2.1 27 = .ok (.invokestatic 110, 3) := by decide +kernel
theorem dX4_calls_30 : decode M_X4_calls.2.1 30 = .ok (.ifCond .ne 6, 3) := by decide +kernel
theorem dX4_calls_33 : decode M_X4_calls.2.1 33 = .ok (.bipush (-3), 2) := by decide +kernel
theorem dX4_calls_35 : decode M_X4_calls.2.1 35 = .ok (.ireturn, 1) := by decide +kernel
theorem dX4_calls_36 : decode M_X4_calls.2.1 36 = .ok (.aload_n 0, 1) := by decide +kernel
theorem dX4_calls_37 : decode M_X4_calls.2.1 37 = .ok (.getfield 22, 3) := by decide +kernel
theorem dX4_calls_40 : decode M_X4_calls.2.1 40 = .ok (.iload_n 2, 1) := by decide +kernel
theorem dX4_calls_41 : decode M_X4_calls.2.1 41 = .ok (.iaload, 1) := by decide +kernel
theorem dX4_calls_42 : decode M_X4_calls.2.1 42 = .ok (.istore_n 3, 1) := by decide +kernel
theorem dX4_calls_43 : decode M_X4_calls.2.1 43 = .ok (.aload_n 0, 1) := by decide +kernel
theorem dX4_calls_44 : decode M_X4_calls.2.1 44 = .ok (.getfield 22, 3) := by decide +kernel
theorem dX4_calls_47 : decode M_X4_calls.2.1 47 = .ok (.iload_n 2, 1) := by decide +kernel
theorem dX4_calls_48 : decode M_X4_calls.2.1 48 = .ok (.iload_n 1, 1) := by decide +kernel
theorem dX4_calls_49 : decode M_X4_calls.2.1 49 = .ok (.iastore, 1) := by decide +kernel
theorem dX4_calls_50 : decode M_X4_calls.2.1 50 = .ok (.iload_n 3, 1) := by decide +kernel
theorem dX4_calls_51 : decode M_X4_calls.2.1 51 = .ok (.ireturn, 1) := by decide +kernel
def f_X4_calls (a0 : Nat) (a1 : Int32) (a2 : Int32) (w : aW) : Option (Int32 × aW) :=
  (sF 3 w a0 19 (.int (0 : Int32))).bind fun w1 =>
  bk (f_X4_isPerson a1 w1) fun x3 w2 =>
  if x3 = (0 : Int32) then
    some ((-1 : Int32), w2)
  else
    cV 3 w2 a0 (bk (f_X4_isBeast a0 a2 w2) fun x5 w4 =>
    if ¬ x5 = (0 : Int32) then
      (gI 3 w4 a0 6).bind fun x6 =>
      bk (f_X4_hasBit x6 a2 w4) fun x8 w7 =>
      if ¬ x8 = (0 : Int32) then
        (gR 3 w7 a0 5).bind fun r9 =>
        (gA w7 r9 a2).bind fun x10 =>
        (gR 3 w7 a0 5).bind fun r11 =>
        (sA w7 r11 a2 a1).bind fun w12 =>
        some (x10, w12)
      else
        some ((-3 : Int32), w7)
    else
      some ((-1 : Int32), w4))
theorem s_X4_calls (a0 : Nat) (a1 : Int32) (a2 : Int32) (w : aW) : Sp rvI M_X4_calls [.ref a0, .int a1, .int a2] w (f_X4_calls a0 a1 a2 w) := by
  refine e_entry [some (.ref a0), some (.int a1), some (.int a2), none] (by decide +kernel) (Nat.le_of_ble_eq_true rfl) (fun _ => rfl) ?_
  unfold f_X4_calls
  refine e_aload_n (pc := 0) dX4_calls_0 rfl rfl ?_
  refine e_iconst (pc := 1) dX4_calls_1 kc_0 ?_
  refine e_put (pc := 2) dX4_calls_2 hw_X4_80 (fun _ => rfl) (fun _ => rfl) (fun w1 => ?_)
  refine e_iload_n (pc := 5) dX4_calls_5 rfl rfl ?_
  refine e_callS (pc := 6) (av := [.int a1]) (S := []) ok_X4_isPerson ⟨Nat.le_of_ble_eq_true rfl, Nat.le_of_ble_eq_true rfl⟩ ht_X4_188 dX4_calls_6 (s_X4_isPerson a1 w1) rfl rfl (Nat.le_of_ble_eq_true rfl) (fun x3 w2 => ?_)
  refine e_if_eq (pc := 9) (tgt := 20) dX4_calls_9 (by decide) (fun _ => ?_) (fun _ => ?_)
  · refine e_iconst (pc := 20) dX4_calls_20 kc_m1 ?_
    exact e_iret (pc := 21) dX4_calls_21 rfl rfl
  · refine e_aload_n (pc := 12) dX4_calls_12 rfl rfl ?_
    refine e_iload_n (pc := 13) dX4_calls_13 rfl rfl ?_
    refine e_callV (pc := 14) (av := [.int a2]) (S := []) (c0 := 3) rfl rfl ok_X4_isBeast ⟨Nat.le_of_ble_eq_true rfl, Nat.le_of_ble_eq_true rfl⟩ hv_X4_185 dX4_calls_14 (s_X4_isBeast a0 a2 w2) rfl rfl (Nat.le_of_ble_eq_true rfl) (fun x5 w4 => ?_)
    refine e_if_ne (pc := 17) (tgt := 22) dX4_calls_17 (by decide) (fun _ => ?_) (fun _ => ?_)
    · refine e_aload_n (pc := 22) dX4_calls_22 rfl rfl ?_
      refine e_getI (pc := 23) dX4_calls_23 hs_X4_107 (fun x6 => ?_)
      refine e_iload_n (pc := 26) dX4_calls_26 rfl rfl ?_
      refine e_callS (pc := 27) (av := [.int x6, .int a2]) (S := []) ok_X4_hasBit ⟨Nat.le_of_ble_eq_true rfl, Nat.le_of_ble_eq_true rfl⟩ ht_X4_110 dX4_calls_27 (s_X4_hasBit x6 a2 w4) rfl rfl (Nat.le_of_ble_eq_true rfl) (fun x8 w7 => ?_)
      refine e_if_ne (pc := 30) (tgt := 36) dX4_calls_30 (by decide) (fun _ => ?_) (fun _ => ?_)
      · refine e_aload_n (pc := 36) dX4_calls_36 rfl rfl ?_
        refine e_getR (pc := 37) dX4_calls_37 hs_X4_22 (fun r9 => ?_)
        refine e_iload_n (pc := 40) dX4_calls_40 rfl rfl ?_
        refine e_iald (pc := 41) dX4_calls_41 (fun x10 => ?_)
        refine e_istore_n (L' := [some (.ref a0), some (.int a1), some (.int a2), some (.int x10)]) (pc := 42) dX4_calls_42 rfl (by decide) rfl ?_
        refine e_aload_n (pc := 43) dX4_calls_43 rfl rfl ?_
        refine e_getR (pc := 44) dX4_calls_44 hs_X4_22 (fun r11 => ?_)
        refine e_iload_n (pc := 47) dX4_calls_47 rfl rfl ?_
        refine e_iload_n (pc := 48) dX4_calls_48 rfl rfl ?_
        refine e_iast (pc := 49) dX4_calls_49 (fun w12 => ?_)
        refine e_iload_n (pc := 50) dX4_calls_50 rfl rfl ?_
        exact e_iret (pc := 51) dX4_calls_51 rfl rfl
      · refine e_bipush (pc := 33) dX4_calls_33 kb_m3 ?_
        exact e_iret (pc := 35) dX4_calls_35 rfl rfl
    · refine e_iconst (pc := 20) dX4_calls_20 kc_m1 ?_
      exact e_iret (pc := 21) dX4_calls_21 rfl rfl
def M_X4_answers : aM := (yX4_answers, cX4_answers, 3, (some .int), 2, 46)
theorem ok_X4_answers : a_okM M_X4_answers 1 := ⟨⟨by decide +kernel, by decide +kernel⟩, by decide +kernel, a_in 1182 (by decide +kernel) rfl, a_in 79 (by decide +kernel) rfl⟩
theorem dX4_answers_0 : decode M_X4_answers.2.1 0 = .ok (.aload_n 0, 1) := by decide +kernel
theorem dX4_answers_1 : decode M_X4_answers.2.1 1 = .ok (.iconst 0, 1) := by decide +kernel
theorem dX4_answers_2 : decode M_X4_answers.2.1 2 = .ok (.putfield 80, 3) := by decide +kernel
theorem dX4_answers_5 : decode M_X4_answers.2.1 5 = .ok (.aload_n 0, 1) := by decide +kernel
theorem dX4_answers_6 : decode M_X4_answers.2.1 6 = .ok (.iload_n 1, 1) := by decide +kernel
theorem dX4_answers_7 : decode M_X4_answers.2.1 7 = .ok (.invokevirtual 185, 3) := by decide +kernel
theorem dX4_answers_10 : decode M_X4_answers.2.1 10 = .ok (.ifCond .ne 5, 3) := by decide +kernel
theorem dX4_answers_13 : decode M_X4_answers.2.1 13 = .ok (.iconst (-1), 1) := by decide +kernel
theorem dX4_answers_14 : decode M_X4_answers.2.1 14 = .ok (.ireturn, 1) := by decide +kernel
theorem dX4_answers_15 : decode M_X4_answers.2.1 15 = .ok (.aload_n 0, 1) := by decide +kernel
theorem dX4_answers_16 : decode M_X4_answers.2.1 16 = .ok (.getfield 22, 3) := by decide +kernel
theorem dX4_answers_19 : decode M_X4_answers.2.1 19 = .ok (.iload_n 1, 1) := by decide +kernel
theorem dX4_answers_20 : decode M_X4_answers.2.1 20 = .ok (.iaload, 1) := by decide +kernel
theorem dX4_answers_21 : decode M_X4_answers.2.1 21 = .ok (.ifCond .ge 6, 3) := by decide +kernel
theorem dX4_answers_24 : decode M_X4_answers.2.1 24 = .ok (.bipush (-3), 2) := by decide +kernel
theorem dX4_answers_26 : decode M_X4_answers.2.1 26 = .ok (.ireturn, 1) := by decide +kernel
theorem dX4_answers_27 : decode M_X4_answers.2.1 27 = .ok (.aload_n 0, 1) := by decide +kernel
theorem dX4_answers_28 : decode M_X4_answers.2.1 28 = .ok (.getfield 22, 3) := by decide +kernel
theorem dX4_answers_31 : decode M_X4_answers.2.1 31 = .ok (.iload_n 1, 1) := by decide +kernel
theorem dX4_answers_32 : decode M_X4_answers.2.1 32 = .ok (.iaload, 1) := by decide +kernel
theorem dX4_answers_33 : decode M_X4_answers.2.1 33 = .ok (.istore_n 2, 1) := by decide +kernel
theorem dX4_answers_34 : decode M_X4_answers.2.1 34 = .ok (.aload_n 0, 1) := by decide +kernel
theorem dX4_answers_35 : decode M_X4_answers.2.1 35 = .ok (.getfield 22, 3) := by decide +kernel
theorem dX4_answers_38 : decode M_X4_answers.2.1 38 = .ok (.iload_n 1, 1) := by decide +kernel
theorem dX4_answers_39 : decode M_X4_answers.2.1 39 = .ok (.bipush (-4), 2) := by decide +kernel
theorem dX4_answers_41 : decode M_X4_answers.2.1 41 = .ok (.iastore, 1) := by decide +kernel
theorem dX4_answers_42 : decode M_X4_answers.2.1 42 = .ok (.iload_n 2, 1) := by decide +kernel
theorem dX4_answers_43 : decode M_X4_answers.2.1 43 = .ok (.ireturn, 1) := by decide +kernel
def f_X4_answers (a0 : Nat) (a1 : Int32) (w : aW) : Option (Int32 × aW) :=
  (sF 3 w a0 19 (.int (0 : Int32))).bind fun w1 =>
  cV 3 w1 a0 (bk (f_X4_isBeast a0 a1 w1) fun x3 w2 =>
  if ¬ x3 = (0 : Int32) then
    (gR 3 w2 a0 5).bind fun r4 =>
    (gA w2 r4 a1).bind fun x5 =>
    if (0 : Int32) ≤ x5 then
      (gR 3 w2 a0 5).bind fun r6 =>
      (gA w2 r6 a1).bind fun x7 =>
      (gR 3 w2 a0 5).bind fun r8 =>
      (sA w2 r8 a1 (-4 : Int32)).bind fun w9 =>
      some (x7, w9)
    else
      some ((-3 : Int32), w2)
  else
    some ((-1 : Int32), w2))
theorem s_X4_answers (a0 : Nat) (a1 : Int32) (w : aW) : Sp rvI M_X4_answers [.ref a0, .int a1] w (f_X4_answers a0 a1 w) := by
  refine e_entry [some (.ref a0), some (.int a1), none] (by decide +kernel) (Nat.le_of_ble_eq_true rfl) (fun _ => rfl) ?_
  unfold f_X4_answers
  refine e_aload_n (pc := 0) dX4_answers_0 rfl rfl ?_
  refine e_iconst (pc := 1) dX4_answers_1 kc_0 ?_
  refine e_put (pc := 2) dX4_answers_2 hw_X4_80 (fun _ => rfl) (fun _ => rfl) (fun w1 => ?_)
  refine e_aload_n (pc := 5) dX4_answers_5 rfl rfl ?_
  refine e_iload_n (pc := 6) dX4_answers_6 rfl rfl ?_
  refine e_callV (pc := 7) (av := [.int a1]) (S := []) (c0 := 3) rfl rfl ok_X4_isBeast ⟨Nat.le_of_ble_eq_true rfl, Nat.le_of_ble_eq_true rfl⟩ hv_X4_185 dX4_answers_7 (s_X4_isBeast a0 a1 w1) rfl rfl (Nat.le_of_ble_eq_true rfl) (fun x3 w2 => ?_)
  refine e_if_ne (pc := 10) (tgt := 15) dX4_answers_10 (by decide) (fun _ => ?_) (fun _ => ?_)
  · refine e_aload_n (pc := 15) dX4_answers_15 rfl rfl ?_
    refine e_getR (pc := 16) dX4_answers_16 hs_X4_22 (fun r4 => ?_)
    refine e_iload_n (pc := 19) dX4_answers_19 rfl rfl ?_
    refine e_iald (pc := 20) dX4_answers_20 (fun x5 => ?_)
    refine e_if_ge (pc := 21) (tgt := 27) dX4_answers_21 (by decide) (fun _ => ?_) (fun _ => ?_)
    · refine e_aload_n (pc := 27) dX4_answers_27 rfl rfl ?_
      refine e_getR (pc := 28) dX4_answers_28 hs_X4_22 (fun r6 => ?_)
      refine e_iload_n (pc := 31) dX4_answers_31 rfl rfl ?_
      refine e_iald (pc := 32) dX4_answers_32 (fun x7 => ?_)
      refine e_istore_n (L' := [some (.ref a0), some (.int a1), some (.int x7)]) (pc := 33) dX4_answers_33 rfl (by decide) rfl ?_
      refine e_aload_n (pc := 34) dX4_answers_34 rfl rfl ?_
      refine e_getR (pc := 35) dX4_answers_35 hs_X4_22 (fun r8 => ?_)
      refine e_iload_n (pc := 38) dX4_answers_38 rfl rfl ?_
      refine e_bipush (pc := 39) dX4_answers_39 kb_m4 ?_
      refine e_iast (pc := 41) dX4_answers_41 (fun w9 => ?_)
      refine e_iload_n (pc := 42) dX4_answers_42 rfl rfl ?_
      exact e_iret (pc := 43) dX4_answers_43 rfl rfl
    · refine e_bipush (pc := 24) dX4_answers_24 kb_m3 ?_
      exact e_iret (pc := 26) dX4_answers_26 rfl rfl
  · refine e_iconst (pc := 13) dX4_answers_13 kc_m1 ?_
    exact e_iret (pc := 14) dX4_answers_14 rfl rfl
def M_X4_tongue : aM := (yX4_tongue, cX4_tongue, 4, (some .int), 2, 45)
theorem ok_X4_tongue : a_okM M_X4_tongue 2 := ⟨⟨by decide +kernel, by decide +kernel⟩, by decide +kernel, a_in 1186 (by decide +kernel) rfl, a_in 79 (by decide +kernel) rfl⟩
theorem dX4_tongue_0 : decode M_X4_tongue.2.1 0 = .ok (.aload_n 0, 1) := by decide +kernel
theorem dX4_tongue_1 : decode M_X4_tongue.2.1 1 = .ok (.iconst 0, 1) := by decide +kernel
theorem dX4_tongue_2 : decode M_X4_tongue.2.1 2 = .ok (.putfield 80, 3) := by decide +kernel
theorem dX4_tongue_5 : decode M_X4_tongue.2.1 5 = .ok (.iload_n 1, 1) := by decide +kernel
theorem dX4_tongue_6 : decode M_X4_tongue.2.1 6 = .ok (.invokestatic 188, 3) := by decide +kernel
theorem dX4_tongue_9 : decode M_X4_tongue.2.1 9 = .ok (.ifCond .eq 15, 3) := by decide +kernel
theorem dX4_tongue_12 : decode M_X4_tongue.2.1 12 = .ok (.iload_n 2, 1) := by decide +kernel
theorem dX4_tongue_13 : decode M_X4_tongue.2.1 13 = .ok (.i2l, 1) := by decide +kernel
theorem dX4_tongue_14 : decode M_X4_tongue.2.1 14 = .ok (.lconst 0, 1) := by decide +kernel
theorem dX4_tongue_15 : decode M_X4_tongue.2.1 15 = .ok (.ldc2_w 267, 3) := by decide +kernel
theorem dX4_tongue_18 : decode M_X4_tongue.2.1 18 = .ok (.invokestatic 86, 3) := by decide +kernel
theorem dX4_tongue_21 : decode M_X4_tongue.2.1 21 = .ok (.ifCond .ne 5, 3) := by decide +kernel
theorem dX4_tongue_24 : decode M_X4_tongue.2.1 24 = .ok (.iconst (-1), 1) := by decide +kernel
theorem dX4_tongue_25 : decode M_X4_tongue.2.1 25 = .ok (.ireturn, 1) := by decide +kernel
theorem dX4_tongue_26 : decode M_X4_tongue.2.1 26 = .ok (.aload_n 0, 1) := by decide +kernel
theorem dX4_tongue_27 : decode M_X4_tongue.2.1 27 = .ok (.getfield 31, 3) := by decide +kernel
theorem dX4_tongue_30 : decode M_X4_tongue.2.1 30 = .ok (.iload_n 1, 1) := by decide +kernel
theorem dX4_tongue_31 : decode M_X4_tongue.2.1 31 = .ok (.iaload, 1) := by decide +kernel
theorem dX4_tongue_32 : decode M_X4_tongue.2.1 32 = .ok (.istore_n 3, 1) := by decide +kernel
theorem dX4_tongue_33 : decode M_X4_tongue.2.1 33 = .ok (.aload_n 0, 1) := by decide +kernel
theorem dX4_tongue_34 : decode M_X4_tongue.2.1 34 = .ok (.getfield 31, 3) := by decide +kernel
theorem dX4_tongue_37 : decode M_X4_tongue.2.1 37 = .ok (.iload_n 1, 1) := by decide +kernel
theorem dX4_tongue_38 : decode M_X4_tongue.2.1 38 = .ok (.iload_n 2, 1) := by decide +kernel
theorem dX4_tongue_39 : decode M_X4_tongue.2.1 39 = .ok (.iastore, 1) := by decide +kernel
theorem dX4_tongue_40 : decode M_X4_tongue.2.1 40 = .ok (.iload_n 3, 1) := by decide +kernel
theorem dX4_tongue_41 : decode M_X4_tongue.2.1 41 = .ok (.ireturn, 1) := by decide +kernel
def f_X4_tongue (a0 : Nat) (a1 : Int32) (a2 : Int32) (w : aW) : Option (Int32 × aW) :=
  (sF 3 w a0 19 (.int (0 : Int32))).bind fun w1 =>
  bk (f_X4_isPerson a1 w1) fun x3 w2 =>
  if x3 = (0 : Int32) then
    some ((-1 : Int32), w2)
  else
    bk (f_X4_in a2.toInt64 (0 : Int64) (3 : Int64) w2) fun x5 w4 =>
    if ¬ x5 = (0 : Int32) then
      (gR 3 w4 a0 9).bind fun r6 =>
      (gA w4 r6 a1).bind fun x7 =>
      (gR 3 w4 a0 9).bind fun r8 =>
      (sA w4 r8 a1 a2).bind fun w9 =>
      some (x7, w9)
    else
      some ((-1 : Int32), w4)
theorem s_X4_tongue (a0 : Nat) (a1 : Int32) (a2 : Int32) (w : aW) : Sp rvI M_X4_tongue [.ref a0, .int a1, .int a2] w (f_X4_tongue a0 a1 a2 w) := by
  refine e_entry [some (.ref a0), some (.int a1), some (.int a2), none] (by decide +kernel) (Nat.le_of_ble_eq_true rfl) (fun _ => rfl) ?_
  unfold f_X4_tongue
  refine e_aload_n (pc := 0) dX4_tongue_0 rfl rfl ?_
  refine e_iconst (pc := 1) dX4_tongue_1 kc_0 ?_
  refine e_put (pc := 2) dX4_tongue_2 hw_X4_80 (fun _ => rfl) (fun _ => rfl) (fun w1 => ?_)
  refine e_iload_n (pc := 5) dX4_tongue_5 rfl rfl ?_
  refine e_callS (pc := 6) (av := [.int a1]) (S := []) ok_X4_isPerson ⟨Nat.le_of_ble_eq_true rfl, Nat.le_of_ble_eq_true rfl⟩ ht_X4_188 dX4_tongue_6 (s_X4_isPerson a1 w1) rfl rfl (Nat.le_of_ble_eq_true rfl) (fun x3 w2 => ?_)
  refine e_if_eq (pc := 9) (tgt := 24) dX4_tongue_9 (by decide) (fun _ => ?_) (fun _ => ?_)
  · refine e_iconst (pc := 24) dX4_tongue_24 kc_m1 ?_
    exact e_iret (pc := 25) dX4_tongue_25 rfl rfl
  · refine e_iload_n (pc := 12) dX4_tongue_12 rfl rfl ?_
    refine e_i2l (pc := 13) dX4_tongue_13 ?_
    refine e_lconst (pc := 14) (v := 0) dX4_tongue_14 (by decide) ?_
    refine e_ldc2 (pc := 15) (v := 3) dX4_tongue_15 (a_in 1187 (by decide +kernel) rfl) ?_
    refine e_callS (pc := 18) (av := [.long a2.toInt64, .long (0 : Int64), .long (3 : Int64)]) (S := []) ok_X4_in ⟨Nat.le_of_ble_eq_true rfl, Nat.le_of_ble_eq_true rfl⟩ ht_X4_86 dX4_tongue_18 (s_X4_in a2.toInt64 (0 : Int64) (3 : Int64) w2) rfl rfl (Nat.le_of_ble_eq_true rfl) (fun x5 w4 => ?_)
    refine e_if_ne (pc := 21) (tgt := 26) dX4_tongue_21 (by decide) (fun _ => ?_) (fun _ => ?_)
    · refine e_aload_n (pc := 26) dX4_tongue_26 rfl rfl ?_
      refine e_getR (pc := 27) dX4_tongue_27 hs_X4_31 (fun r6 => ?_)
      refine e_iload_n (pc := 30) dX4_tongue_30 rfl rfl ?_
      refine e_iald (pc := 31) dX4_tongue_31 (fun x7 => ?_)
      refine e_istore_n (L' := [some (.ref a0), some (.int a1), some (.int a2), some (.int x7)]) (pc := 32) dX4_tongue_32 rfl (by decide) rfl ?_
      refine e_aload_n (pc := 33) dX4_tongue_33 rfl rfl ?_
      refine e_getR (pc := 34) dX4_tongue_34 hs_X4_31 (fun r8 => ?_)
      refine e_iload_n (pc := 37) dX4_tongue_37 rfl rfl ?_
      refine e_iload_n (pc := 38) dX4_tongue_38 rfl rfl ?_
      refine e_iast (pc := 39) dX4_tongue_39 (fun w9 => ?_)
      refine e_iload_n (pc := 40) dX4_tongue_40 rfl rfl ?_
      exact e_iret (pc := 41) dX4_tongue_41 rfl rfl
    · refine e_iconst (pc := 24) dX4_tongue_24 kc_m1 ?_
      exact e_iret (pc := 25) dX4_tongue_25 rfl rfl
def M_X4_means : aM := (yX4_means, cX4_means, 4, (some .int), 2, 45)
theorem ok_X4_means : a_okM M_X4_means 2 := ⟨⟨by decide +kernel, by decide +kernel⟩, by decide +kernel, a_in 1191 (by decide +kernel) rfl, a_in 79 (by decide +kernel) rfl⟩
theorem dX4_means_0 : decode M_X4_means.2.1 0 = .ok (.aload_n 0, 1) := by decide +kernel
theorem dX4_means_1 : decode M_X4_means.2.1 1 = .ok (.iconst 0, 1) := by decide +kernel
theorem dX4_means_2 : decode M_X4_means.2.1 2 = .ok (.putfield 80, 3) := by decide +kernel
theorem dX4_means_5 : decode M_X4_means.2.1 5 = .ok (.iload_n 1, 1) := by decide +kernel
theorem dX4_means_6 : decode M_X4_means.2.1 6 = .ok (.invokestatic 188, 3) := by decide +kernel
theorem dX4_means_9 : decode M_X4_means.2.1 9 = .ok (.ifCond .eq 15, 3) := by decide +kernel
theorem dX4_means_12 : decode M_X4_means.2.1 12 = .ok (.iload_n 2, 1) := by decide +kernel
theorem dX4_means_13 : decode M_X4_means.2.1 13 = .ok (.i2l, 1) := by decide +kernel
theorem dX4_means_14 : decode M_X4_means.2.1 14 = .ok (.lconst 0, 1) := by decide +kernel
theorem dX4_means_15 : decode M_X4_means.2.1 15 = .ok (.ldc2_w 269, 3) := by decide +kernel
theorem dX4_means_18 : decode M_X4_means.2.1 18 = .ok (.invokestatic 86, 3) := by decide +kernel
theorem dX4_means_21 : decode M_X4_means.2.1 21 = .ok (.ifCond .ne 5, 3) := by decide +kernel
theorem dX4_means_24 : decode M_X4_means.2.1 24 = .ok (.iconst (-1), 1) := by decide +kernel
theorem dX4_means_25 : decode M_X4_means.2.1 25 = .ok (.ireturn, 1) := by decide +kernel
theorem dX4_means_26 : decode M_X4_means.2.1 26 = .ok (.aload_n 0, 1) := by decide +kernel
theorem dX4_means_27 : decode M_X4_means.2.1 27 = .ok (.getfield 25, 3) := by decide +kernel
theorem dX4_means_30 : decode M_X4_means.2.1 30 = .ok (.iload_n 1, 1) := by decide +kernel
theorem dX4_means_31 : decode M_X4_means.2.1 31 = .ok (.iaload, 1) := by decide +kernel
theorem dX4_means_32 : decode M_X4_means.2.1 32 = .ok (.istore_n 3, 1) := by decide +kernel
theorem dX4_means_33 : decode M_X4_means.2.1 33 = .ok (.aload_n 0, 1) := by decide +kernel
theorem dX4_means_34 : decode M_X4_means.2.1 34 = .ok (.getfield 25, 3) := by decide +kernel
theorem dX4_means_37 : decode M_X4_means.2.1 37 = .ok (.iload_n 1, 1) := by decide +kernel
theorem dX4_means_38 : decode M_X4_means.2.1 38 = .ok (.iload_n 2, 1) := by decide +kernel
theorem dX4_means_39 : decode M_X4_means.2.1 39 = .ok (.iastore, 1) := by decide +kernel
theorem dX4_means_40 : decode M_X4_means.2.1 40 = .ok (.iload_n 3, 1) := by decide +kernel
theorem dX4_means_41 : decode M_X4_means.2.1 41 = .ok (.ireturn, 1) := by decide +kernel
def f_X4_means (a0 : Nat) (a1 : Int32) (a2 : Int32) (w : aW) : Option (Int32 × aW) :=
  (sF 3 w a0 19 (.int (0 : Int32))).bind fun w1 =>
  bk (f_X4_isPerson a1 w1) fun x3 w2 =>
  if x3 = (0 : Int32) then
    some ((-1 : Int32), w2)
  else
    bk (f_X4_in a2.toInt64 (0 : Int64) (999 : Int64) w2) fun x5 w4 =>
    if ¬ x5 = (0 : Int32) then
      (gR 3 w4 a0 7).bind fun r6 =>
      (gA w4 r6 a1).bind fun x7 =>
      (gR 3 w4 a0 7).bind fun r8 =>
      (sA w4 r8 a1 a2).bind fun w9 =>
      some (x7, w9)
    else
      some ((-1 : Int32), w4)
theorem s_X4_means (a0 : Nat) (a1 : Int32) (a2 : Int32) (w : aW) : Sp rvI M_X4_means [.ref a0, .int a1, .int a2] w (f_X4_means a0 a1 a2 w) := by
  refine e_entry [some (.ref a0), some (.int a1), some (.int a2), none] (by decide +kernel) (Nat.le_of_ble_eq_true rfl) (fun _ => rfl) ?_
  unfold f_X4_means
  refine e_aload_n (pc := 0) dX4_means_0 rfl rfl ?_
  refine e_iconst (pc := 1) dX4_means_1 kc_0 ?_
  refine e_put (pc := 2) dX4_means_2 hw_X4_80 (fun _ => rfl) (fun _ => rfl) (fun w1 => ?_)
  refine e_iload_n (pc := 5) dX4_means_5 rfl rfl ?_
  refine e_callS (pc := 6) (av := [.int a1]) (S := []) ok_X4_isPerson ⟨Nat.le_of_ble_eq_true rfl, Nat.le_of_ble_eq_true rfl⟩ ht_X4_188 dX4_means_6 (s_X4_isPerson a1 w1) rfl rfl (Nat.le_of_ble_eq_true rfl) (fun x3 w2 => ?_)
  refine e_if_eq (pc := 9) (tgt := 24) dX4_means_9 (by decide) (fun _ => ?_) (fun _ => ?_)
  · refine e_iconst (pc := 24) dX4_means_24 kc_m1 ?_
    exact e_iret (pc := 25) dX4_means_25 rfl rfl
  · refine e_iload_n (pc := 12) dX4_means_12 rfl rfl ?_
    refine e_i2l (pc := 13) dX4_means_13 ?_
    refine e_lconst (pc := 14) (v := 0) dX4_means_14 (by decide) ?_
    refine e_ldc2 (pc := 15) (v := 999) dX4_means_15 (a_in 1192 (by decide +kernel) rfl) ?_
    refine e_callS (pc := 18) (av := [.long a2.toInt64, .long (0 : Int64), .long (999 : Int64)]) (S := []) ok_X4_in ⟨Nat.le_of_ble_eq_true rfl, Nat.le_of_ble_eq_true rfl⟩ ht_X4_86 dX4_means_18 (s_X4_in a2.toInt64 (0 : Int64) (999 : Int64) w2) rfl rfl (Nat.le_of_ble_eq_true rfl) (fun x5 w4 => ?_)
    refine e_if_ne (pc := 21) (tgt := 26) dX4_means_21 (by decide) (fun _ => ?_) (fun _ => ?_)
    · refine e_aload_n (pc := 26) dX4_means_26 rfl rfl ?_
      refine e_getR (pc := 27) dX4_means_27 hs_X4_25 (fun r6 => ?_)
      refine e_iload_n (pc := 30) dX4_means_30 rfl rfl ?_
      refine e_iald (pc := 31) dX4_means_31 (fun x7 => ?_)
      refine e_istore_n (L' := [some (.ref a0), some (.int a1), some (.int a2), some (.int x7)]) (pc := 32) dX4_means_32 rfl (by decide) rfl ?_
      refine e_aload_n (pc := 33) dX4_means_33 rfl rfl ?_
      refine e_getR (pc := 34) dX4_means_34 hs_X4_25 (fun r8 => ?_)
      refine e_iload_n (pc := 37) dX4_means_37 rfl rfl ?_
      refine e_iload_n (pc := 38) dX4_means_38 rfl rfl ?_
      refine e_iast (pc := 39) dX4_means_39 (fun w9 => ?_)
      refine e_iload_n (pc := 40) dX4_means_40 rfl rfl ?_
      exact e_iret (pc := 41) dX4_means_41 rfl rfl
    · refine e_iconst (pc := 24) dX4_means_24 kc_m1 ?_
      exact e_iret (pc := 25) dX4_means_25 rfl rfl
def M_X4_days : aM := (yX4_days, cX4_days, 2, (some .int), 6, 135)
theorem ok_X4_days : a_okM M_X4_days 1 := ⟨⟨by decide +kernel, by decide +kernel⟩, by decide +kernel, a_in 1196 (by decide +kernel) rfl, a_in 79 (by decide +kernel) rfl⟩
theorem dX4_days_0 : decode M_X4_days.2.1 0 = .ok (.aload_n 0, 1) := by decide +kernel
theorem dX4_days_1 : decode M_X4_days.2.1 1 = .ok (.iconst 0, 1) := by decide +kernel
theorem dX4_days_2 : decode M_X4_days.2.1 2 = .ok (.putfield 80, 3) := by decide +kernel
theorem dX4_days_5 : decode M_X4_days.2.1 5 = .ok (.iload_n 1, 1) := by decide +kernel
theorem dX4_days_6 : decode M_X4_days.2.1 6 = .ok (.i2l, 1) := by decide +kernel
theorem dX4_days_7 : decode M_X4_days.2.1 7 = .ok (.lconst 1, 1) := by decide +kernel
theorem dX4_days_8 : decode M_X4_days.2.1 8 = .ok (.ldc2_w 191, 3) := by decide +kernel
theorem dX4_days_11 : decode M_X4_days.2.1 11 = .ok (.invokestatic 86, 3) := by decide +kernel
theorem dX4_days_14 : decode M_X4_days.2.1 14 = .ok (.ifCond .ne 5, 3) := by decide +kernel
theorem dX4_days_17 : decode M_X4_days.2.1 17 = .ok (.iconst (-1), 1) := by decide +kernel
theorem dX4_days_18 : decode M_X4_days.2.1 18 = .ok (.ireturn, 1) := by decide +kernel
theorem dX4_days_19 : decode M_X4_days.2.1 19 = .ok (.aload_n 0, 1) := by decide +kernel
theorem dX4_days_20 : decode M_X4_days.2.1 20 = .ok (.getfield 124, 3) := by decide +kernel
theorem dX4_days_23 : decode M_X4_days.2.1 23 = .ok (.iload_n 1, 1) := by decide +kernel
theorem dX4_days_24 : decode M_X4_days.2.1 24 = .ok (.iadd, 1) := by decide +kernel
theorem dX4_days_25 : decode M_X4_days.2.1 25 = .ok (.sipush 999, 3) := by decide +kernel
theorem dX4_days_28 : decode M_X4_days.2.1 28 = .ok (.if_icmp .le 6, 3) := by decide +kernel
theorem dX4_days_31 : decode M_X4_days.2.1 31 = .ok (.bipush (-3), 2) := by decide +kernel
theorem dX4_days_33 : decode M_X4_days.2.1 33 = .ok (.ireturn, 1) := by decide +kernel
theorem dX4_days_34 : decode M_X4_days.2.1 34 = .ok (.aload_n 0, 1) := by decide +kernel
theorem dX4_days_35 : decode M_X4_days.2.1 35 = .ok (.iload_n 1, 1) := by decide +kernel
theorem dX4_days_36 : decode M_X4_days.2.1 36 = .ok (.invokevirtual 193, 3) := by decide +kernel
theorem dX4_days_39 : decode M_X4_days.2.1 39 = .ok (.aload_n 0, 1) := by decide +kernel
theorem dX4_days_40 : decode M_X4_days.2.1 40 = .ok (.getfield 107, 3) := by decide +kernel
theorem dX4_days_43 : decode M_X4_days.2.1 43 = .ok (.invokestatic 271, 3) := by decide +kernel
theorem dX4_days_46 : decode M_X4_days.2.1 46 = .ok (.ireturn, 1) := by decide +kernel
theorem ht_X4_271 : a_okS RX4 M_X4_onesOf 271 := ⟨a_in 1197 (by decide +kernel) rfl, a_in 1198 (by decide +kernel) rfl⟩
def f_X4_days (a0 : Nat) (a1 : Int32) (w : aW) : Option (Int32 × aW) :=
  (sF 3 w a0 19 (.int (0 : Int32))).bind fun w1 =>
  bk (f_X4_in a1.toInt64 (1 : Int64) (60 : Int64) w1) fun x3 w2 =>
  if ¬ x3 = (0 : Int32) then
    (gI 3 w2 a0 11).bind fun x4 =>
    if (x4 + a1) ≤ (999 : Int32) then
      cV 3 w2 a0 (bk (f_X4_goDays a0 a1 w2) fun _ w5 =>
      (gI 3 w5 a0 6).bind fun x6 =>
      bk (f_X4_onesOf x6 w5) fun x8 w7 =>
      some (x8, w7))
    else
      some ((-3 : Int32), w2)
  else
    some ((-1 : Int32), w2)
theorem s_X4_days (a0 : Nat) (a1 : Int32) (w : aW) : Sp rvI M_X4_days [.ref a0, .int a1] w (f_X4_days a0 a1 w) := by
  refine e_entry [some (.ref a0), some (.int a1)] (by decide +kernel) (Nat.le_of_ble_eq_true rfl) (fun _ => rfl) ?_
  unfold f_X4_days
  refine e_aload_n (pc := 0) dX4_days_0 rfl rfl ?_
  refine e_iconst (pc := 1) dX4_days_1 kc_0 ?_
  refine e_put (pc := 2) dX4_days_2 hw_X4_80 (fun _ => rfl) (fun _ => rfl) (fun w1 => ?_)
  refine e_iload_n (pc := 5) dX4_days_5 rfl rfl ?_
  refine e_i2l (pc := 6) dX4_days_6 ?_
  refine e_lconst (pc := 7) (v := 1) dX4_days_7 (by decide) ?_
  refine e_ldc2 (pc := 8) (v := 60) dX4_days_8 (a_in 1070 (by decide +kernel) rfl) ?_
  refine e_callS (pc := 11) (av := [.long a1.toInt64, .long (1 : Int64), .long (60 : Int64)]) (S := []) ok_X4_in ⟨Nat.le_of_ble_eq_true rfl, Nat.le_of_ble_eq_true rfl⟩ ht_X4_86 dX4_days_11 (s_X4_in a1.toInt64 (1 : Int64) (60 : Int64) w1) rfl rfl (Nat.le_of_ble_eq_true rfl) (fun x3 w2 => ?_)
  refine e_if_ne (pc := 14) (tgt := 19) dX4_days_14 (by decide) (fun _ => ?_) (fun _ => ?_)
  · refine e_aload_n (pc := 19) dX4_days_19 rfl rfl ?_
    refine e_getI (pc := 20) dX4_days_20 hs_X4_124 (fun x4 => ?_)
    refine e_iload_n (pc := 23) dX4_days_23 rfl rfl ?_
    refine e_iadd (pc := 24) dX4_days_24 ?_
    refine e_sipush (pc := 25) dX4_days_25 ks_999 ?_
    refine e_icmp_le (pc := 28) (tgt := 34) dX4_days_28 (by decide) (fun _ => ?_) (fun _ => ?_)
    · refine e_aload_n (pc := 34) dX4_days_34 rfl rfl ?_
      refine e_iload_n (pc := 35) dX4_days_35 rfl rfl ?_
      refine e_callV (pc := 36) (av := [.int a1]) (S := []) (c0 := 3) rfl rfl ok_X4_goDays ⟨Nat.le_of_ble_eq_true rfl, Nat.le_of_ble_eq_true rfl⟩ hv_X4_193 dX4_days_36 (s_X4_goDays a0 a1 w2) rfl rfl (Nat.le_of_ble_eq_true rfl) (fun _ w5 => ?_)
      refine e_aload_n (pc := 39) dX4_days_39 rfl rfl ?_
      refine e_getI (pc := 40) dX4_days_40 hs_X4_107 (fun x6 => ?_)
      refine e_callS (pc := 43) (av := [.int x6]) (S := []) ok_X4_onesOf ⟨Nat.le_of_ble_eq_true rfl, Nat.le_of_ble_eq_true rfl⟩ ht_X4_271 dX4_days_43 (s_X4_onesOf x6 w5) rfl rfl (Nat.le_of_ble_eq_true rfl) (fun x8 w7 => ?_)
      exact e_iret (pc := 46) dX4_days_46 rfl rfl
    · refine e_bipush (pc := 31) dX4_days_31 kb_m3 ?_
      exact e_iret (pc := 33) dX4_days_33 rfl rfl
  · refine e_iconst (pc := 17) dX4_days_17 kc_m1 ?_
    exact e_iret (pc := 18) dX4_days_18 rfl rfl
def M_X4_beastThen : aM := (yX4_beastThen, cX4_beastThen, 5, (some .int), 6, 135)
theorem ok_X4_beastThen : a_okM M_X4_beastThen 3 := ⟨⟨by decide +kernel, by decide +kernel⟩, by decide +kernel, a_in 1203 (by decide +kernel) rfl, a_in 79 (by decide +kernel) rfl⟩
theorem dX4_beastThen_0 : decode M_X4_beastThen.2.1 0 = .ok (.aload_n 0, 1) := by decide +kernel
theorem dX4_beastThen_1 : decode M_X4_beastThen.2.1 1 = .ok (.iconst 0, 1) := by decide +kernel
theorem dX4_beastThen_2 : decode M_X4_beastThen.2.1 2 = .ok (.putfield 80, 3) := by decide +kernel
theorem dX4_beastThen_5 : decode M_X4_beastThen.2.1 5 = .ok (.aload_n 0, 1) := by decide +kernel
theorem dX4_beastThen_6 : decode M_X4_beastThen.2.1 6 = .ok (.iload_n 1, 1) := by decide +kernel
theorem dX4_beastThen_7 : decode M_X4_beastThen.2.1 7 = .ok (.invokevirtual 185, 3) := by decide +kernel
theorem dX4_beastThen_10 : decode M_X4_beastThen.2.1 10 = .ok (.ifCond .eq 27, 3) := by decide +kernel
theorem dX4_beastThen_13 : decode M_X4_beastThen.2.1 13 = .ok (.iload_n 2, 1) := by decide +kernel
theorem dX4_beastThen_14 : decode M_X4_beastThen.2.1 14 = .ok (.i2l, 1) := by decide +kernel
theorem dX4_beastThen_15 : decode M_X4_beastThen.2.1 15 = .ok (.lconst 0, 1) := by decide +kernel
theorem dX4_beastThen_16 : decode M_X4_beastThen.2.1 16 = .ok (.ldc2_w 191, 3) := by decide +kernel
theorem dX4_beastThen_19 : decode M_X4_beastThen.2.1 19 = .ok (.invokestatic 86, 3) := by decide +kernel
theorem dX4_beastThen_22 : decode M_X4_beastThen.2.1 22 = .ok (.ifCond .eq 15, 3) := by decide +kernel
theorem dX4_beastThen_25 : decode M_X4_beastThen.2.1 25 = .ok (.iload_n 3, 1) := by decide +kernel
theorem dX4_beastThen_26 : decode M_X4_beastThen.2.1 26 = .ok (.i2l, 1) := by decide +kernel
theorem dX4_beastThen_27 : decode M_X4_beastThen.2.1 27 = .ok (.lconst 0, 1) := by decide +kernel
theorem dX4_beastThen_28 : decode M_X4_beastThen.2.1 28 = .ok (.ldc2_w 274, 3) := by decide +kernel
theorem dX4_beastThen_31 : decode M_X4_beastThen.2.1 31 = .ok (.invokestatic 86, 3) := by decide +kernel
theorem dX4_beastThen_34 : decode M_X4_beastThen.2.1 34 = .ok (.ifCond .ne 5, 3) := by decide +kernel
theorem dX4_beastThen_37 : decode M_X4_beastThen.2.1 37 = .ok (.iconst (-1), 1) := by decide +kernel
theorem dX4_beastThen_38 : decode M_X4_beastThen.2.1 38 = .ok (.ireturn, 1) := by decide +kernel
theorem dX4_beastThen_39 : decode M_X4_beastThen.2.1 39 = .ok (.aload_n 0, 1) := by decide +kernel
theorem dX4_beastThen_40 : decode M_X4_beastThen.2.1 40 = .ok (.invokevirtual 221, 3) := by decide +kernel
theorem dX4_beastThen_43 : decode M_X4_beastThen.2.1 43 = .ok (.aload_n 0, 1) := by decide +kernel
theorem dX4_beastThen_44 : decode M_X4_beastThen.2.1 44 = .ok (.iload_n 2, 1) := by decide +kernel
theorem dX4_beastThen_45 : decode M_X4_beastThen.2.1 45 = .ok (.invokevirtual 193, 3) := by decide +kernel
theorem dX4_beastThen_48 : decode M_X4_beastThen.2.1 48 = .ok (.iload_n 3, 1) := by decide +kernel
theorem dX4_beastThen_49 : decode M_X4_beastThen.2.1 49 = .ok (.ifCond .ne 12, 3) := by decide +kernel
theorem dX4_beastThen_52 : decode M_X4_beastThen.2.1 52 = .ok (.aload_n 0, 1) := by decide +kernel
theorem dX4_beastThen_53 : decode M_X4_beastThen.2.1 53 = .ok (.getfield 16, 3) := by decide +kernel
theorem dX4_beastThen_56 : decode M_X4_beastThen.2.1 56 = .ok (.iload_n 1, 1) := by decide +kernel
theorem dX4_beastThen_57 : decode M_X4_beastThen.2.1 57 = .ok (.iaload, 1) := by decide +kernel
theorem dX4_beastThen_58 : decode M_X4_beastThen.2.1 58 = .ok (.goto 23, 3) := by decide +kernel
theorem dX4_beastThen_61 : decode M_X4_beastThen.2.1 61 = .ok (.iload_n 3, 1) := by decide +kernel
theorem dX4_beastThen_62 : decode M_X4_beastThen.2.1 62 = .ok (.iconst 1, 1) := by decide +kernel
theorem dX4_beastThen_63 : decode M_X4_beastThen.2.1 63 = .ok (.if_icmp .ne 12, 3) := by decide +kernel
theorem dX4_beastThen_66 : decode M_X4_beastThen.2.1 66 = .ok (.aload_n 0, 1) := by decide +kernel
theorem dX4_beastThen_67 : decode M_X4_beastThen.2.1 67 = .ok (.getfield 19, 3) := by decide +kernel
theorem dX4_beastThen_70 : decode M_X4_beastThen.2.1 70 = .ok (.iload_n 1, 1) := by decide +kernel
theorem dX4_beastThen_71 : decode M_X4_beastThen.2.1 71 = .ok (.iaload, 1) := by decide +kernel
theorem dX4_beastThen_72 : decode M_X4_beastThen.2.1 72 = .ok (.goto 9, 3) := by decide +kernel
theorem dX4_beastThen_75 : decode M_X4_beastThen.2.1 75 = .ok (.aload_n 0, 1) := by decide +kernel
theorem dX4_beastThen_76 : decode M_X4_beastThen.2.1 76 = .ok (.getfield 22, 3) := by decide +kernel
theorem dX4_beastThen_79 : decode M_X4_beastThen.2.1 79 = .ok (.iload_n 1, 1) := by decide +kernel
theorem dX4_beastThen_80 : decode M_X4_beastThen.2.1 80 = .ok (.iaload, 1) := by decide +kernel
theorem dX4_beastThen_81 : decode M_X4_beastThen.2.1 81 = .ok (.istore 4, 2) := by decide +kernel
theorem dX4_beastThen_83 : decode M_X4_beastThen.2.1 83 = .ok (.aload_n 0, 1) := by decide +kernel
theorem dX4_beastThen_84 : decode M_X4_beastThen.2.1 84 = .ok (.invokevirtual 227, 3) := by decide +kernel
theorem dX4_beastThen_87 : decode M_X4_beastThen.2.1 87 = .ok (.iload 4, 2) := by decide +kernel
theorem dX4_beastThen_89 : decode M_X4_beastThen.2.1 89 = .ok (.ireturn, 1) := by decide +kernel
def f_X4_beastThen (a0 : Nat) (a1 : Int32) (a2 : Int32) (a3 : Int32) (w : aW) : Option (Int32 × aW) :=
  (sF 3 w a0 19 (.int (0 : Int32))).bind fun w1 =>
  cV 3 w1 a0 (bk (f_X4_isBeast a0 a1 w1) fun x3 w2 =>
  if x3 = (0 : Int32) then
    some ((-1 : Int32), w2)
  else
    bk (f_X4_in a2.toInt64 (0 : Int64) (60 : Int64) w2) fun x5 w4 =>
    if x5 = (0 : Int32) then
      some ((-1 : Int32), w4)
    else
      bk (f_X4_in a3.toInt64 (0 : Int64) (2 : Int64) w4) fun x7 w6 =>
      if ¬ x7 = (0 : Int32) then
        cV 3 w6 a0 (bk (f_X4_think a0 w6) fun _ w8 =>
        cV 3 w8 a0 (bk (f_X4_goDays a0 a2 w8) fun _ w9 =>
        if ¬ a3 = (0 : Int32) then
          if ¬ a3 = (1 : Int32) then
            (gR 3 w9 a0 5).bind fun r10 =>
            (gA w9 r10 a1).bind fun x11 =>
            cV 3 w9 a0 (bk (f_X4_again a0 w9) fun _ w12 =>
            some (x11, w12))
          else
            (gR 3 w9 a0 4).bind fun r13 =>
            (gA w9 r13 a1).bind fun x14 =>
            cV 3 w9 a0 (bk (f_X4_again a0 w9) fun _ w15 =>
            some (x14, w15))
        else
          (gR 3 w9 a0 3).bind fun r16 =>
          (gA w9 r16 a1).bind fun x17 =>
          cV 3 w9 a0 (bk (f_X4_again a0 w9) fun _ w18 =>
          some (x17, w18))))
      else
        some ((-1 : Int32), w6))
theorem s_X4_beastThen (a0 : Nat) (a1 : Int32) (a2 : Int32) (a3 : Int32) (w : aW) : Sp rvI M_X4_beastThen [.ref a0, .int a1, .int a2, .int a3] w (f_X4_beastThen a0 a1 a2 a3 w) := by
  refine e_entry [some (.ref a0), some (.int a1), some (.int a2), some (.int a3), none] (by decide +kernel) (Nat.le_of_ble_eq_true rfl) (fun _ => rfl) ?_
  unfold f_X4_beastThen
  refine e_aload_n (pc := 0) dX4_beastThen_0 rfl rfl ?_
  refine e_iconst (pc := 1) dX4_beastThen_1 kc_0 ?_
  refine e_put (pc := 2) dX4_beastThen_2 hw_X4_80 (fun _ => rfl) (fun _ => rfl) (fun w1 => ?_)
  refine e_aload_n (pc := 5) dX4_beastThen_5 rfl rfl ?_
  refine e_iload_n (pc := 6) dX4_beastThen_6 rfl rfl ?_
  refine e_callV (pc := 7) (av := [.int a1]) (S := []) (c0 := 3) rfl rfl ok_X4_isBeast ⟨Nat.le_of_ble_eq_true rfl, Nat.le_of_ble_eq_true rfl⟩ hv_X4_185 dX4_beastThen_7 (s_X4_isBeast a0 a1 w1) rfl rfl (Nat.le_of_ble_eq_true rfl) (fun x3 w2 => ?_)
  refine e_if_eq (pc := 10) (tgt := 37) dX4_beastThen_10 (by decide) (fun _ => ?_) (fun _ => ?_)
  · refine e_iconst (pc := 37) dX4_beastThen_37 kc_m1 ?_
    exact e_iret (pc := 38) dX4_beastThen_38 rfl rfl
  · refine e_iload_n (pc := 13) dX4_beastThen_13 rfl rfl ?_
    refine e_i2l (pc := 14) dX4_beastThen_14 ?_
    refine e_lconst (pc := 15) (v := 0) dX4_beastThen_15 (by decide) ?_
    refine e_ldc2 (pc := 16) (v := 60) dX4_beastThen_16 (a_in 1070 (by decide +kernel) rfl) ?_
    refine e_callS (pc := 19) (av := [.long a2.toInt64, .long (0 : Int64), .long (60 : Int64)]) (S := []) ok_X4_in ⟨Nat.le_of_ble_eq_true rfl, Nat.le_of_ble_eq_true rfl⟩ ht_X4_86 dX4_beastThen_19 (s_X4_in a2.toInt64 (0 : Int64) (60 : Int64) w2) rfl rfl (Nat.le_of_ble_eq_true rfl) (fun x5 w4 => ?_)
    refine e_if_eq (pc := 22) (tgt := 37) dX4_beastThen_22 (by decide) (fun _ => ?_) (fun _ => ?_)
    · refine e_iconst (pc := 37) dX4_beastThen_37 kc_m1 ?_
      exact e_iret (pc := 38) dX4_beastThen_38 rfl rfl
    · refine e_iload_n (pc := 25) dX4_beastThen_25 rfl rfl ?_
      refine e_i2l (pc := 26) dX4_beastThen_26 ?_
      refine e_lconst (pc := 27) (v := 0) dX4_beastThen_27 (by decide) ?_
      refine e_ldc2 (pc := 28) (v := 2) dX4_beastThen_28 (a_in 1204 (by decide +kernel) rfl) ?_
      refine e_callS (pc := 31) (av := [.long a3.toInt64, .long (0 : Int64), .long (2 : Int64)]) (S := []) ok_X4_in ⟨Nat.le_of_ble_eq_true rfl, Nat.le_of_ble_eq_true rfl⟩ ht_X4_86 dX4_beastThen_31 (s_X4_in a3.toInt64 (0 : Int64) (2 : Int64) w4) rfl rfl (Nat.le_of_ble_eq_true rfl) (fun x7 w6 => ?_)
      refine e_if_ne (pc := 34) (tgt := 39) dX4_beastThen_34 (by decide) (fun _ => ?_) (fun _ => ?_)
      · refine e_aload_n (pc := 39) dX4_beastThen_39 rfl rfl ?_
        refine e_callV (pc := 40) (av := []) (S := []) (c0 := 3) rfl rfl ok_X4_think ⟨Nat.le_of_ble_eq_true rfl, Nat.le_of_ble_eq_true rfl⟩ hv_X4_221 dX4_beastThen_40 (s_X4_think a0 w6) rfl rfl (Nat.le_of_ble_eq_true rfl) (fun _ w8 => ?_)
        refine e_aload_n (pc := 43) dX4_beastThen_43 rfl rfl ?_
        refine e_iload_n (pc := 44) dX4_beastThen_44 rfl rfl ?_
        refine e_callV (pc := 45) (av := [.int a2]) (S := []) (c0 := 3) rfl rfl ok_X4_goDays ⟨Nat.le_of_ble_eq_true rfl, Nat.le_of_ble_eq_true rfl⟩ hv_X4_193 dX4_beastThen_45 (s_X4_goDays a0 a2 w8) rfl rfl (Nat.le_of_ble_eq_true rfl) (fun _ w9 => ?_)
        refine e_iload_n (pc := 48) dX4_beastThen_48 rfl rfl ?_
        refine e_if_ne (pc := 49) (tgt := 61) dX4_beastThen_49 (by decide) (fun _ => ?_) (fun _ => ?_)
        · refine e_iload_n (pc := 61) dX4_beastThen_61 rfl rfl ?_
          refine e_iconst (pc := 62) dX4_beastThen_62 kc_1 ?_
          refine e_icmp_ne (pc := 63) (tgt := 75) dX4_beastThen_63 (by decide) (fun _ => ?_) (fun _ => ?_)
          · refine e_aload_n (pc := 75) dX4_beastThen_75 rfl rfl ?_
            refine e_getR (pc := 76) dX4_beastThen_76 hs_X4_22 (fun r10 => ?_)
            refine e_iload_n (pc := 79) dX4_beastThen_79 rfl rfl ?_
            refine e_iald (pc := 80) dX4_beastThen_80 (fun x11 => ?_)
            refine e_istore (L' := [some (.ref a0), some (.int a1), some (.int a2), some (.int a3), some (.int x11)]) (pc := 81) dX4_beastThen_81 (by decide) rfl ?_
            refine e_aload_n (pc := 83) dX4_beastThen_83 rfl rfl ?_
            refine e_callV (pc := 84) (av := []) (S := []) (c0 := 3) rfl rfl ok_X4_again ⟨Nat.le_of_ble_eq_true rfl, Nat.le_of_ble_eq_true rfl⟩ hv_X4_227 dX4_beastThen_84 (s_X4_again a0 w9) rfl rfl (Nat.le_of_ble_eq_true rfl) (fun _ w12 => ?_)
            refine e_iload (pc := 87) dX4_beastThen_87 rfl ?_
            exact e_iret (pc := 89) dX4_beastThen_89 rfl rfl
          · refine e_aload_n (pc := 66) dX4_beastThen_66 rfl rfl ?_
            refine e_getR (pc := 67) dX4_beastThen_67 hs_X4_19 (fun r13 => ?_)
            refine e_iload_n (pc := 70) dX4_beastThen_70 rfl rfl ?_
            refine e_iald (pc := 71) dX4_beastThen_71 (fun x14 => ?_)
            refine e_goto (pc := 72) (tgt := 81) dX4_beastThen_72 (by decide) ?_
            refine e_istore (L' := [some (.ref a0), some (.int a1), some (.int a2), some (.int a3), some (.int x14)]) (pc := 81) dX4_beastThen_81 (by decide) rfl ?_
            refine e_aload_n (pc := 83) dX4_beastThen_83 rfl rfl ?_
            refine e_callV (pc := 84) (av := []) (S := []) (c0 := 3) rfl rfl ok_X4_again ⟨Nat.le_of_ble_eq_true rfl, Nat.le_of_ble_eq_true rfl⟩ hv_X4_227 dX4_beastThen_84 (s_X4_again a0 w9) rfl rfl (Nat.le_of_ble_eq_true rfl) (fun _ w15 => ?_)
            refine e_iload (pc := 87) dX4_beastThen_87 rfl ?_
            exact e_iret (pc := 89) dX4_beastThen_89 rfl rfl
        · refine e_aload_n (pc := 52) dX4_beastThen_52 rfl rfl ?_
          refine e_getR (pc := 53) dX4_beastThen_53 hs_X4_16 (fun r16 => ?_)
          refine e_iload_n (pc := 56) dX4_beastThen_56 rfl rfl ?_
          refine e_iald (pc := 57) dX4_beastThen_57 (fun x17 => ?_)
          refine e_goto (pc := 58) (tgt := 81) dX4_beastThen_58 (by decide) ?_
          refine e_istore (L' := [some (.ref a0), some (.int a1), some (.int a2), some (.int a3), some (.int x17)]) (pc := 81) dX4_beastThen_81 (by decide) rfl ?_
          refine e_aload_n (pc := 83) dX4_beastThen_83 rfl rfl ?_
          refine e_callV (pc := 84) (av := []) (S := []) (c0 := 3) rfl rfl ok_X4_again ⟨Nat.le_of_ble_eq_true rfl, Nat.le_of_ble_eq_true rfl⟩ hv_X4_227 dX4_beastThen_84 (s_X4_again a0 w9) rfl rfl (Nat.le_of_ble_eq_true rfl) (fun _ w18 => ?_)
          refine e_iload (pc := 87) dX4_beastThen_87 rfl ?_
          exact e_iret (pc := 89) dX4_beastThen_89 rfl rfl
      · refine e_iconst (pc := 37) dX4_beastThen_37 kc_m1 ?_
        exact e_iret (pc := 38) dX4_beastThen_38 rfl rfl
def M_X4_personThen : aM := (yX4_personThen, cX4_personThen, 5, (some .int), 6, 135)
theorem ok_X4_personThen : a_okM M_X4_personThen 3 := ⟨⟨by decide +kernel, by decide +kernel⟩, by decide +kernel, a_in 1208 (by decide +kernel) rfl, a_in 79 (by decide +kernel) rfl⟩
theorem dX4_personThen_0 : decode M_X4_personThen.2.1 0 = .ok (.aload_n 0, 1) := by decide +kernel
theorem dX4_personThen_1 : decode M_X4_personThen.2.1 1 = .ok (.iconst 0, 1) := by decide +kernel
theorem dX4_personThen_2 : decode M_X4_personThen.2.1 2 = .ok (.putfield 80, 3) := by decide +kernel
theorem dX4_personThen_5 : decode M_X4_personThen.2.1 5 = .ok (.iload_n 1, 1) := by decide +kernel
theorem dX4_personThen_6 : decode M_X4_personThen.2.1 6 = .ok (.invokestatic 188, 3) := by decide +kernel
theorem dX4_personThen_9 : decode M_X4_personThen.2.1 9 = .ok (.ifCond .eq 27, 3) := by decide +kernel
theorem dX4_personThen_12 : decode M_X4_personThen.2.1 12 = .ok (.iload_n 2, 1) := by decide +kernel
theorem dX4_personThen_13 : decode M_X4_personThen.2.1 13 = .ok (.i2l, 1) := by decide +kernel
theorem dX4_personThen_14 : decode M_X4_personThen.2.1 14 = .ok (.lconst 0, 1) := by decide +kernel
theorem dX4_personThen_15 : decode M_X4_personThen.2.1 15 = .ok (.ldc2_w 191, 3) := by decide +kernel
theorem dX4_personThen_18 : decode M_X4_personThen.2.1 18 = .ok (.invokestatic 86, 3) := by decide +kernel
theorem dX4_personThen_21 : decode M_X4_personThen.2.1 21 = .ok (.ifCond .eq 15, 3) := by decide +kernel
theorem dX4_personThen_24 : decode M_X4_personThen.2.1 24 = .ok (.iload_n 3, 1) := by decide +kernel
theorem dX4_personThen_25 : decode M_X4_personThen.2.1 25 = .ok (.i2l, 1) := by decide +kernel
theorem dX4_personThen_26 : decode M_X4_personThen.2.1 26 = .ok (.lconst 0, 1) := by decide +kernel
theorem dX4_personThen_27 : decode M_X4_personThen.2.1 27 = .ok (.ldc2_w 274, 3) := by decide +kernel
theorem dX4_personThen_30 : decode M_X4_personThen.2.1 30 = .ok (.invokestatic 86, 3) := by decide +kernel
theorem dX4_personThen_33 : decode M_X4_personThen.2.1 33 = .ok (.ifCond .ne 5, 3) := by decide +kernel
theorem dX4_personThen_36 : decode M_X4_personThen.2.1 36 = .ok (.iconst (-1), 1) := by decide +kernel
theorem dX4_personThen_37 : decode M_X4_personThen.2.1 37 = .ok (.ireturn, 1) := by decide +kernel
theorem dX4_personThen_38 : decode M_X4_personThen.2.1 38 = .ok (.aload_n 0, 1) := by decide +kernel
theorem dX4_personThen_39 : decode M_X4_personThen.2.1 39 = .ok (.invokevirtual 221, 3) := by decide +kernel
theorem dX4_personThen_42 : decode M_X4_personThen.2.1 42 = .ok (.aload_n 0, 1) := by decide +kernel
theorem dX4_personThen_43 : decode M_X4_personThen.2.1 43 = .ok (.iload_n 2, 1) := by decide +kernel
theorem dX4_personThen_44 : decode M_X4_personThen.2.1 44 = .ok (.invokevirtual 193, 3) := by decide +kernel
theorem dX4_personThen_47 : decode M_X4_personThen.2.1 47 = .ok (.iload_n 3, 1) := by decide +kernel
theorem dX4_personThen_48 : decode M_X4_personThen.2.1 48 = .ok (.ifCond .ne 12, 3) := by decide +kernel
theorem dX4_personThen_51 : decode M_X4_personThen.2.1 51 = .ok (.aload_n 0, 1) := by decide +kernel
theorem dX4_personThen_52 : decode M_X4_personThen.2.1 52 = .ok (.getfield 25, 3) := by decide +kernel
theorem dX4_personThen_55 : decode M_X4_personThen.2.1 55 = .ok (.iload_n 1, 1) := by decide +kernel
theorem dX4_personThen_56 : decode M_X4_personThen.2.1 56 = .ok (.iaload, 1) := by decide +kernel
theorem dX4_personThen_57 : decode M_X4_personThen.2.1 57 = .ok (.goto 22, 3) := by decide +kernel
theorem dX4_personThen_60 : decode M_X4_personThen.2.1 60 = .ok (.iload_n 3, 1) := by decide +kernel
theorem dX4_personThen_61 : decode M_X4_personThen.2.1 61 = .ok (.iconst 1, 1) := by decide +kernel
theorem dX4_personThen_62 : decode M_X4_personThen.2.1 62 = .ok (.if_icmp .ne 12, 3) := by decide +kernel
theorem dX4_personThen_65 : decode M_X4_personThen.2.1 65 = .ok (.aload_n 0, 1) := by decide +kernel
theorem dX4_personThen_66 : decode M_X4_personThen.2.1 66 = .ok (.getfield 34, 3) := by decide +kernel
theorem dX4_personThen_69 : decode M_X4_personThen.2.1 69 = .ok (.iload_n 1, 1) := by decide +kernel
theorem dX4_personThen_70 : decode M_X4_personThen.2.1 70 = .ok (.iaload, 1) := by decide +kernel
theorem dX4_personThen_71 : decode M_X4_personThen.2.1 71 = .ok (.goto 8, 3) := by decide +kernel
theorem dX4_personThen_74 : decode M_X4_personThen.2.1 74 = .ok (.aload_n 0, 1) := by decide +kernel
theorem dX4_personThen_75 : decode M_X4_personThen.2.1 75 = .ok (.iload_n 1, 1) := by decide +kernel
theorem dX4_personThen_76 : decode M_X4_personThen.2.1 76 = .ok (.invokevirtual 253, 3) := by decide +kernel
theorem dX4_personThen_79 : decode M_X4_personThen.2.1 79 = .ok (.istore 4, 2) := by decide +kernel
theorem dX4_personThen_81 : decode M_X4_personThen.2.1 81 = .ok (.aload_n 0, 1) := by decide +kernel
theorem dX4_personThen_82 : decode M_X4_personThen.2.1 82 = .ok (.invokevirtual 227, 3) := by decide +kernel
theorem dX4_personThen_85 : decode M_X4_personThen.2.1 85 = .ok (.iload 4, 2) := by decide +kernel
theorem dX4_personThen_87 : decode M_X4_personThen.2.1 87 = .ok (.ireturn, 1) := by decide +kernel
def f_X4_personThen (a0 : Nat) (a1 : Int32) (a2 : Int32) (a3 : Int32) (w : aW) : Option (Int32 × aW) :=
  (sF 3 w a0 19 (.int (0 : Int32))).bind fun w1 =>
  bk (f_X4_isPerson a1 w1) fun x3 w2 =>
  if x3 = (0 : Int32) then
    some ((-1 : Int32), w2)
  else
    bk (f_X4_in a2.toInt64 (0 : Int64) (60 : Int64) w2) fun x5 w4 =>
    if x5 = (0 : Int32) then
      some ((-1 : Int32), w4)
    else
      bk (f_X4_in a3.toInt64 (0 : Int64) (2 : Int64) w4) fun x7 w6 =>
      if ¬ x7 = (0 : Int32) then
        cV 3 w6 a0 (bk (f_X4_think a0 w6) fun _ w8 =>
        cV 3 w8 a0 (bk (f_X4_goDays a0 a2 w8) fun _ w9 =>
        if ¬ a3 = (0 : Int32) then
          if ¬ a3 = (1 : Int32) then
            cV 3 w9 a0 (bk (f_X4_calledBits a0 a1 w9) fun x11 w10 =>
            cV 3 w10 a0 (bk (f_X4_again a0 w10) fun _ w12 =>
            some (x11, w12)))
          else
            (gR 3 w9 a0 10).bind fun r13 =>
            (gA w9 r13 a1).bind fun x14 =>
            cV 3 w9 a0 (bk (f_X4_again a0 w9) fun _ w15 =>
            some (x14, w15))
        else
          (gR 3 w9 a0 7).bind fun r16 =>
          (gA w9 r16 a1).bind fun x17 =>
          cV 3 w9 a0 (bk (f_X4_again a0 w9) fun _ w18 =>
          some (x17, w18))))
      else
        some ((-1 : Int32), w6)
theorem s_X4_personThen (a0 : Nat) (a1 : Int32) (a2 : Int32) (a3 : Int32) (w : aW) : Sp rvI M_X4_personThen [.ref a0, .int a1, .int a2, .int a3] w (f_X4_personThen a0 a1 a2 a3 w) := by
  refine e_entry [some (.ref a0), some (.int a1), some (.int a2), some (.int a3), none] (by decide +kernel) (Nat.le_of_ble_eq_true rfl) (fun _ => rfl) ?_
  unfold f_X4_personThen
  refine e_aload_n (pc := 0) dX4_personThen_0 rfl rfl ?_
  refine e_iconst (pc := 1) dX4_personThen_1 kc_0 ?_
  refine e_put (pc := 2) dX4_personThen_2 hw_X4_80 (fun _ => rfl) (fun _ => rfl) (fun w1 => ?_)
  refine e_iload_n (pc := 5) dX4_personThen_5 rfl rfl ?_
  refine e_callS (pc := 6) (av := [.int a1]) (S := []) ok_X4_isPerson ⟨Nat.le_of_ble_eq_true rfl, Nat.le_of_ble_eq_true rfl⟩ ht_X4_188 dX4_personThen_6 (s_X4_isPerson a1 w1) rfl rfl (Nat.le_of_ble_eq_true rfl) (fun x3 w2 => ?_)
  refine e_if_eq (pc := 9) (tgt := 36) dX4_personThen_9 (by decide) (fun _ => ?_) (fun _ => ?_)
  · refine e_iconst (pc := 36) dX4_personThen_36 kc_m1 ?_
    exact e_iret (pc := 37) dX4_personThen_37 rfl rfl
  · refine e_iload_n (pc := 12) dX4_personThen_12 rfl rfl ?_
    refine e_i2l (pc := 13) dX4_personThen_13 ?_
    refine e_lconst (pc := 14) (v := 0) dX4_personThen_14 (by decide) ?_
    refine e_ldc2 (pc := 15) (v := 60) dX4_personThen_15 (a_in 1070 (by decide +kernel) rfl) ?_
    refine e_callS (pc := 18) (av := [.long a2.toInt64, .long (0 : Int64), .long (60 : Int64)]) (S := []) ok_X4_in ⟨Nat.le_of_ble_eq_true rfl, Nat.le_of_ble_eq_true rfl⟩ ht_X4_86 dX4_personThen_18 (s_X4_in a2.toInt64 (0 : Int64) (60 : Int64) w2) rfl rfl (Nat.le_of_ble_eq_true rfl) (fun x5 w4 => ?_)
    refine e_if_eq (pc := 21) (tgt := 36) dX4_personThen_21 (by decide) (fun _ => ?_) (fun _ => ?_)
    · refine e_iconst (pc := 36) dX4_personThen_36 kc_m1 ?_
      exact e_iret (pc := 37) dX4_personThen_37 rfl rfl
    · refine e_iload_n (pc := 24) dX4_personThen_24 rfl rfl ?_
      refine e_i2l (pc := 25) dX4_personThen_25 ?_
      refine e_lconst (pc := 26) (v := 0) dX4_personThen_26 (by decide) ?_
      refine e_ldc2 (pc := 27) (v := 2) dX4_personThen_27 (a_in 1204 (by decide +kernel) rfl) ?_
      refine e_callS (pc := 30) (av := [.long a3.toInt64, .long (0 : Int64), .long (2 : Int64)]) (S := []) ok_X4_in ⟨Nat.le_of_ble_eq_true rfl, Nat.le_of_ble_eq_true rfl⟩ ht_X4_86 dX4_personThen_30 (s_X4_in a3.toInt64 (0 : Int64) (2 : Int64) w4) rfl rfl (Nat.le_of_ble_eq_true rfl) (fun x7 w6 => ?_)
      refine e_if_ne (pc := 33) (tgt := 38) dX4_personThen_33 (by decide) (fun _ => ?_) (fun _ => ?_)
      · refine e_aload_n (pc := 38) dX4_personThen_38 rfl rfl ?_
        refine e_callV (pc := 39) (av := []) (S := []) (c0 := 3) rfl rfl ok_X4_think ⟨Nat.le_of_ble_eq_true rfl, Nat.le_of_ble_eq_true rfl⟩ hv_X4_221 dX4_personThen_39 (s_X4_think a0 w6) rfl rfl (Nat.le_of_ble_eq_true rfl) (fun _ w8 => ?_)
        refine e_aload_n (pc := 42) dX4_personThen_42 rfl rfl ?_
        refine e_iload_n (pc := 43) dX4_personThen_43 rfl rfl ?_
        refine e_callV (pc := 44) (av := [.int a2]) (S := []) (c0 := 3) rfl rfl ok_X4_goDays ⟨Nat.le_of_ble_eq_true rfl, Nat.le_of_ble_eq_true rfl⟩ hv_X4_193 dX4_personThen_44 (s_X4_goDays a0 a2 w8) rfl rfl (Nat.le_of_ble_eq_true rfl) (fun _ w9 => ?_)
        refine e_iload_n (pc := 47) dX4_personThen_47 rfl rfl ?_
        refine e_if_ne (pc := 48) (tgt := 60) dX4_personThen_48 (by decide) (fun _ => ?_) (fun _ => ?_)
        · refine e_iload_n (pc := 60) dX4_personThen_60 rfl rfl ?_
          refine e_iconst (pc := 61) dX4_personThen_61 kc_1 ?_
          refine e_icmp_ne (pc := 62) (tgt := 74) dX4_personThen_62 (by decide) (fun _ => ?_) (fun _ => ?_)
          · refine e_aload_n (pc := 74) dX4_personThen_74 rfl rfl ?_
            refine e_iload_n (pc := 75) dX4_personThen_75 rfl rfl ?_
            refine e_callV (pc := 76) (av := [.int a1]) (S := []) (c0 := 3) rfl rfl ok_X4_calledBits ⟨Nat.le_of_ble_eq_true rfl, Nat.le_of_ble_eq_true rfl⟩ hv_X4_253 dX4_personThen_76 (s_X4_calledBits a0 a1 w9) rfl rfl (Nat.le_of_ble_eq_true rfl) (fun x11 w10 => ?_)
            refine e_istore (L' := [some (.ref a0), some (.int a1), some (.int a2), some (.int a3), some (.int x11)]) (pc := 79) dX4_personThen_79 (by decide) rfl ?_
            refine e_aload_n (pc := 81) dX4_personThen_81 rfl rfl ?_
            refine e_callV (pc := 82) (av := []) (S := []) (c0 := 3) rfl rfl ok_X4_again ⟨Nat.le_of_ble_eq_true rfl, Nat.le_of_ble_eq_true rfl⟩ hv_X4_227 dX4_personThen_82 (s_X4_again a0 w10) rfl rfl (Nat.le_of_ble_eq_true rfl) (fun _ w12 => ?_)
            refine e_iload (pc := 85) dX4_personThen_85 rfl ?_
            exact e_iret (pc := 87) dX4_personThen_87 rfl rfl
          · refine e_aload_n (pc := 65) dX4_personThen_65 rfl rfl ?_
            refine e_getR (pc := 66) dX4_personThen_66 hs_X4_34 (fun r13 => ?_)
            refine e_iload_n (pc := 69) dX4_personThen_69 rfl rfl ?_
            refine e_iald (pc := 70) dX4_personThen_70 (fun x14 => ?_)
            refine e_goto (pc := 71) (tgt := 79) dX4_personThen_71 (by decide) ?_
            refine e_istore (L' := [some (.ref a0), some (.int a1), some (.int a2), some (.int a3), some (.int x14)]) (pc := 79) dX4_personThen_79 (by decide) rfl ?_
            refine e_aload_n (pc := 81) dX4_personThen_81 rfl rfl ?_
            refine e_callV (pc := 82) (av := []) (S := []) (c0 := 3) rfl rfl ok_X4_again ⟨Nat.le_of_ble_eq_true rfl, Nat.le_of_ble_eq_true rfl⟩ hv_X4_227 dX4_personThen_82 (s_X4_again a0 w9) rfl rfl (Nat.le_of_ble_eq_true rfl) (fun _ w15 => ?_)
            refine e_iload (pc := 85) dX4_personThen_85 rfl ?_
            exact e_iret (pc := 87) dX4_personThen_87 rfl rfl
        · refine e_aload_n (pc := 51) dX4_personThen_51 rfl rfl ?_
          refine e_getR (pc := 52) dX4_personThen_52 hs_X4_25 (fun r16 => ?_)
          refine e_iload_n (pc := 55) dX4_personThen_55 rfl rfl ?_
          refine e_iald (pc := 56) dX4_personThen_56 (fun x17 => ?_)
          refine e_goto (pc := 57) (tgt := 79) dX4_personThen_57 (by decide) ?_
          refine e_istore (L' := [some (.ref a0), some (.int a1), some (.int a2), some (.int a3), some (.int x17)]) (pc := 79) dX4_personThen_79 (by decide) rfl ?_
          refine e_aload_n (pc := 81) dX4_personThen_81 rfl rfl ?_
          refine e_callV (pc := 82) (av := []) (S := []) (c0 := 3) rfl rfl ok_X4_again ⟨Nat.le_of_ble_eq_true rfl, Nat.le_of_ble_eq_true rfl⟩ hv_X4_227 dX4_personThen_82 (s_X4_again a0 w9) rfl rfl (Nat.le_of_ble_eq_true rfl) (fun _ w18 => ?_)
          refine e_iload (pc := 85) dX4_personThen_85 rfl ?_
          exact e_iret (pc := 87) dX4_personThen_87 rfl rfl
      · refine e_iconst (pc := 36) dX4_personThen_36 kc_m1 ?_
        exact e_iret (pc := 37) dX4_personThen_37 rfl rfl
def M_X4_named : aM := (yX4_named, cX4_named, 6, (some .int), 5, 113)
theorem ok_X4_named : a_okM M_X4_named 2 := ⟨⟨by decide +kernel, by decide +kernel⟩, by decide +kernel, a_in 1212 (by decide +kernel) rfl, a_in 79 (by decide +kernel) rfl⟩
theorem dX4_named_0 : decode M_X4_named.2.1 0 = .ok (.aload_n 0, 1) := by decide +kernel
theorem dX4_named_1 : decode M_X4_named.2.1 1 = .ok (.iconst 0, 1) := by decide +kernel
theorem dX4_named_2 : decode M_X4_named.2.1 2 = .ok (.putfield 80, 3) := by decide +kernel
theorem dX4_named_5 : decode M_X4_named.2.1 5 = .ok (.aload_n 0, 1) := by decide +kernel
theorem dX4_named_6 : decode M_X4_named.2.1 6 = .ok (.iload_n 1, 1) := by decide +kernel
theorem dX4_named_7 : decode M_X4_named.2.1 7 = .ok (.invokevirtual 185, 3) := by decide +kernel
theorem dX4_named_10 : decode M_X4_named.2.1 10 = .ok (.ifCond .eq 13, 3) := by decide +kernel
theorem dX4_named_13 : decode M_X4_named.2.1 13 = .ok (.iload_n 2, 1) := by decide +kernel
theorem dX4_named_14 : decode M_X4_named.2.1 14 = .ok (.i2l, 1) := by decide +kernel
theorem dX4_named_15 : decode M_X4_named.2.1 15 = .ok (.lconst 0, 1) := by decide +kernel
theorem dX4_named_16 : decode M_X4_named.2.1 16 = .ok (.lconst 1, 1) := by decide +kernel
theorem dX4_named_17 : decode M_X4_named.2.1 17 = .ok (.invokestatic 86, 3) := by decide +kernel
theorem dX4_named_20 : decode M_X4_named.2.1 20 = .ok (.ifCond .ne 5, 3) := by decide +kernel
theorem dX4_named_23 : decode M_X4_named.2.1 23 = .ok (.iconst (-1), 1) := by decide +kernel
theorem dX4_named_24 : decode M_X4_named.2.1 24 = .ok (.ireturn, 1) := by decide +kernel
theorem dX4_named_25 : decode M_X4_named.2.1 25 = .ok (.bipush (-4), 2) := by decide +kernel
theorem dX4_named_27 : decode M_X4_named.2.1 27 = .ok (.istore_n 3, 1) := by decide +kernel
theorem dX4_named_28 : decode M_X4_named.2.1 28 = .ok (.bipush (-4), 2) := by decide +kernel
theorem dX4_named_30 : decode M_X4_named.2.1 30 = .ok (.istore 4, 2) := by decide +kernel
theorem dX4_named_32 : decode M_X4_named.2.1 32 = .ok (.aload_n 0, 1) := by decide +kernel
theorem dX4_named_33 : decode M_X4_named.2.1 33 = .ok (.invokevirtual 221, 3) := by decide +kernel
theorem dX4_named_36 : decode M_X4_named.2.1 36 = .ok (.iconst 0, 1) := by decide +kernel
theorem dX4_named_37 : decode M_X4_named.2.1 37 = .ok (.istore 5, 2) := by decide +kernel
theorem dX4_named_39 : decode M_X4_named.2.1 39 = .ok (.iload 5, 2) := by decide +kernel
theorem dX4_named_41 : decode M_X4_named.2.1 41 = .ok (.bipush 60, 2) := by decide +kernel
theorem dX4_named_43 : decode M_X4_named.2.1 43 = .ok (.if_icmp .gt 42, 3) := by decide +kernel
theorem dX4_named_46 : decode M_X4_named.2.1 46 = .ok (.iload_n 3, 1) := by decide +kernel
theorem dX4_named_47 : decode M_X4_named.2.1 47 = .ok (.ifCond .ge 38, 3) := by decide +kernel
theorem dX4_named_50 : decode M_X4_named.2.1 50 = .ok (.aload_n 0, 1) := by decide +kernel
theorem dX4_named_51 : decode M_X4_named.2.1 51 = .ok (.getfield 22, 3) := by decide +kernel
theorem dX4_named_54 : decode M_X4_named.2.1 54 = .ok (.iload_n 1, 1) := by decide +kernel
theorem dX4_named_55 : decode M_X4_named.2.1 55 = .ok (.iaload, 1) := by decide +kernel
theorem dX4_named_56 : decode M_X4_named.2.1 56 = .ok (.ifCond .lt 8, 3) := by decide +kernel
theorem dX4_named_59 : decode M_X4_named.2.1 59 = .ok (.iload 5, 2) := by decide +kernel
theorem dX4_named_61 : decode M_X4_named.2.1 61 = .ok (.goto 5, 3) := by decide +kernel
theorem dX4_named_64 : decode M_X4_named.2.1 64 = .ok (.bipush (-4), 2) := by decide +kernel
theorem dX4_named_66 : decode M_X4_named.2.1 66 = .ok (.istore_n 3, 1) := by decide +kernel
theorem dX4_named_67 : decode M_X4_named.2.1 67 = .ok (.aload_n 0, 1) := by decide +kernel
theorem dX4_named_68 : decode M_X4_named.2.1 68 = .ok (.getfield 22, 3) := by decide +kernel
theorem dX4_named_71 : decode M_X4_named.2.1 71 = .ok (.iload_n 1, 1) := by decide +kernel
theorem dX4_named_72 : decode M_X4_named.2.1 72 = .ok (.iaload, 1) := by decide +kernel
theorem dX4_named_73 : decode M_X4_named.2.1 73 = .ok (.istore 4, 2) := by decide +kernel
theorem dX4_named_75 : decode M_X4_named.2.1 75 = .ok (.aload_n 0, 1) := by decide +kernel
theorem dX4_named_76 : decode M_X4_named.2.1 76 = .ok (.invokevirtual 149, 3) := by decide +kernel
theorem dX4_named_79 : decode M_X4_named.2.1 79 = .ok (.iinc 5 1, 3) := by decide +kernel
theorem dX4_named_82 : decode M_X4_named.2.1 82 = .ok (.goto (-43), 3) := by decide +kernel
theorem dX4_named_85 : decode M_X4_named.2.1 85 = .ok (.aload_n 0, 1) := by decide +kernel
theorem dX4_named_86 : decode M_X4_named.2.1 86 = .ok (.invokevirtual 227, 3) := by decide +kernel
theorem dX4_named_89 : decode M_X4_named.2.1 89 = .ok (.iload_n 2, 1) := by decide +kernel
theorem dX4_named_90 : decode M_X4_named.2.1 90 = .ok (.ifCond .ne 7, 3) := by decide +kernel
theorem dX4_named_93 : decode M_X4_named.2.1 93 = .ok (.iload_n 3, 1) := by decide +kernel
theorem dX4_named_94 : decode M_X4_named.2.1 94 = .ok (.goto 5, 3) := by decide +kernel
theorem dX4_named_97 : decode M_X4_named.2.1 97 = .ok (.iload 4, 2) := by decide +kernel
theorem dX4_named_99 : decode M_X4_named.2.1 99 = .ok (.ireturn, 1) := by decide +kernel
def c_X4_named_66 (a0 : Nat) (a1 : Int32) (a2 : Int32) (k39 : Int32 → Int32 → Int32 → aW → Option (Int32 × aW)) (b5 : Int32) (s0 : Int32) (w : aW) : Option (Int32 × aW) :=
  (gR 3 w a0 5).bind fun r11 =>
  (gA w r11 a1).bind fun x12 =>
  cV 3 w a0 (bk (f_X4_dayOn a0 w) fun _ w13 =>
  k39 s0 x12 (b5 + 1) w13)
theorem t_X4_named_66 (a0 : Nat) (a1 : Int32) (a2 : Int32) (k39 : Int32 → Int32 → Int32 → aW → Option (Int32 × aW)) (hk39 : ∀ (b3 : Int32) (b4 : Int32) (b5 : Int32) (w : aW), Ev rvI M_X4_named 39 [some (.ref a0), some (.int a1), some (.int a2), some (.int b3), some (.int b4), some (.int b5)] [] w (k39 b3 b4 b5 w)) (b5 : Int32) (s0 : Int32) (w : aW) : Ev rvI M_X4_named 66 [some (.ref a0), some (.int a1), some (.int a2), none, none, some (.int b5)] [.int s0] w (c_X4_named_66 a0 a1 a2 k39 b5 s0 w) := by
  unfold c_X4_named_66
  refine e_istore_n (L' := [some (.ref a0), some (.int a1), some (.int a2), some (.int s0), none, some (.int b5)]) (pc := 66) dX4_named_66 rfl (by decide) rfl ?_
  refine e_aload_n (pc := 67) dX4_named_67 rfl rfl ?_
  refine e_getR (pc := 68) dX4_named_68 hs_X4_22 (fun r11 => ?_)
  refine e_iload_n (pc := 71) dX4_named_71 rfl rfl ?_
  refine e_iald (pc := 72) dX4_named_72 (fun x12 => ?_)
  refine e_istore (L' := [some (.ref a0), some (.int a1), some (.int a2), some (.int s0), some (.int x12), some (.int b5)]) (pc := 73) dX4_named_73 (by decide) rfl ?_
  refine e_aload_n (pc := 75) dX4_named_75 rfl rfl ?_
  refine e_callV (pc := 76) (av := []) (S := []) (c0 := 3) rfl rfl ok_X4_dayOn ⟨Nat.le_of_ble_eq_true rfl, Nat.le_of_ble_eq_true rfl⟩ hv_X4_149 dX4_named_76 (s_X4_dayOn a0 w) rfl rfl (Nat.le_of_ble_eq_true rfl) (fun _ w13 => ?_)
  refine e_iinc (L' := [some (.ref a0), some (.int a1), some (.int a2), some (.int s0), some (.int x12), some (.int (b5 + 1))]) (pc := 79) (v := 1) dX4_named_79 (by decide) rfl kc_1 rfl ?_
  refine e_goto (pc := 82) (tgt := 39) dX4_named_82 (by decide) ?_
  exact hk39 s0 x12 (b5 + 1) w13
def c_X4_named_39 (a0 : Nat) (a1 : Int32) (a2 : Int32) (k39 : Int32 → Int32 → Int32 → aW → Option (Int32 × aW)) (b3 : Int32) (b4 : Int32) (b5 : Int32) (w : aW) : Option (Int32 × aW) :=
  if (60 : Int32) < b5 then
    cV 3 w a0 (bk (f_X4_again a0 w) fun _ w7 =>
    if ¬ a2 = (0 : Int32) then
      some (b4, w7)
    else
      some (b3, w7))
  else
    if (0 : Int32) ≤ b3 then
      cV 3 w a0 (bk (f_X4_again a0 w) fun _ w8 =>
      if ¬ a2 = (0 : Int32) then
        some (b4, w8)
      else
        some (b3, w8))
    else
      (gR 3 w a0 5).bind fun r9 =>
      (gA w r9 a1).bind fun x10 =>
      if x10 < (0 : Int32) then
        c_X4_named_66 a0 a1 a2 k39 b5 (-4 : Int32) w
      else
        c_X4_named_66 a0 a1 a2 k39 b5 b5 w
theorem t_X4_named_39 (a0 : Nat) (a1 : Int32) (a2 : Int32) (k39 : Int32 → Int32 → Int32 → aW → Option (Int32 × aW)) (hk39 : ∀ (b3 : Int32) (b4 : Int32) (b5 : Int32) (w : aW), Ev rvI M_X4_named 39 [some (.ref a0), some (.int a1), some (.int a2), some (.int b3), some (.int b4), some (.int b5)] [] w (k39 b3 b4 b5 w)) (b3 : Int32) (b4 : Int32) (b5 : Int32) (w : aW) : Ev rvI M_X4_named 39 [some (.ref a0), some (.int a1), some (.int a2), some (.int b3), some (.int b4), some (.int b5)] [] w (c_X4_named_39 a0 a1 a2 k39 b3 b4 b5 w) := by
  unfold c_X4_named_39
  refine e_iload (pc := 39) dX4_named_39 rfl ?_
  refine e_bipush (pc := 41) dX4_named_41 kb_60 ?_
  refine e_icmp_gt (pc := 43) (tgt := 85) dX4_named_43 (by decide) (fun _ => ?_) (fun _ => ?_)
  · refine e_aload_n (pc := 85) dX4_named_85 rfl rfl ?_
    refine e_callV (pc := 86) (av := []) (S := []) (c0 := 3) rfl rfl ok_X4_again ⟨Nat.le_of_ble_eq_true rfl, Nat.le_of_ble_eq_true rfl⟩ hv_X4_227 dX4_named_86 (s_X4_again a0 w) rfl rfl (Nat.le_of_ble_eq_true rfl) (fun _ w7 => ?_)
    refine e_iload_n (pc := 89) dX4_named_89 rfl rfl ?_
    refine e_if_ne (pc := 90) (tgt := 97) dX4_named_90 (by decide) (fun _ => ?_) (fun _ => ?_)
    · refine e_iload (pc := 97) dX4_named_97 rfl ?_
      exact e_iret (pc := 99) dX4_named_99 rfl rfl
    · refine e_iload_n (pc := 93) dX4_named_93 rfl rfl ?_
      refine e_goto (pc := 94) (tgt := 99) dX4_named_94 (by decide) ?_
      exact e_iret (pc := 99) dX4_named_99 rfl rfl
  · refine e_iload_n (pc := 46) dX4_named_46 rfl rfl ?_
    refine e_if_ge (pc := 47) (tgt := 85) dX4_named_47 (by decide) (fun _ => ?_) (fun _ => ?_)
    · refine e_aload_n (pc := 85) dX4_named_85 rfl rfl ?_
      refine e_callV (pc := 86) (av := []) (S := []) (c0 := 3) rfl rfl ok_X4_again ⟨Nat.le_of_ble_eq_true rfl, Nat.le_of_ble_eq_true rfl⟩ hv_X4_227 dX4_named_86 (s_X4_again a0 w) rfl rfl (Nat.le_of_ble_eq_true rfl) (fun _ w8 => ?_)
      refine e_iload_n (pc := 89) dX4_named_89 rfl rfl ?_
      refine e_if_ne (pc := 90) (tgt := 97) dX4_named_90 (by decide) (fun _ => ?_) (fun _ => ?_)
      · refine e_iload (pc := 97) dX4_named_97 rfl ?_
        exact e_iret (pc := 99) dX4_named_99 rfl rfl
      · refine e_iload_n (pc := 93) dX4_named_93 rfl rfl ?_
        refine e_goto (pc := 94) (tgt := 99) dX4_named_94 (by decide) ?_
        exact e_iret (pc := 99) dX4_named_99 rfl rfl
    · refine e_aload_n (pc := 50) dX4_named_50 rfl rfl ?_
      refine e_getR (pc := 51) dX4_named_51 hs_X4_22 (fun r9 => ?_)
      refine e_iload_n (pc := 54) dX4_named_54 rfl rfl ?_
      refine e_iald (pc := 55) dX4_named_55 (fun x10 => ?_)
      refine e_if_lt (pc := 56) (tgt := 64) dX4_named_56 (by decide) (fun _ => ?_) (fun _ => ?_)
      · refine e_bipush (pc := 64) dX4_named_64 kb_m4 ?_
        refine e_forget (L2 := [some (.ref a0), some (.int a1), some (.int a2), none, none, some (.int b5)]) (And.intro rfl (And.intro rfl (And.intro rfl (And.intro rfl trivial)))) ?_
        exact t_X4_named_66 a0 a1 a2 k39 hk39 b5 (-4 : Int32) w
      · refine e_iload (pc := 59) dX4_named_59 rfl ?_
        refine e_goto (pc := 61) (tgt := 66) dX4_named_61 (by decide) ?_
        refine e_forget (L2 := [some (.ref a0), some (.int a1), some (.int a2), none, none, some (.int b5)]) (And.intro rfl (And.intro rfl (And.intro rfl (And.intro rfl trivial)))) ?_
        exact t_X4_named_66 a0 a1 a2 k39 hk39 b5 b5 w
def f_X4_named (a0 : Nat) (a1 : Int32) (a2 : Int32) (w : aW) : Option (Int32 × aW) :=
  (sF 3 w a0 19 (.int (0 : Int32))).bind fun w1 =>
  cV 3 w1 a0 (bk (f_X4_isBeast a0 a1 w1) fun x3 w2 =>
  if x3 = (0 : Int32) then
    some ((-1 : Int32), w2)
  else
    bk (f_X4_in a2.toInt64 (0 : Int64) (1 : Int64) w2) fun x5 w4 =>
    if ¬ x5 = (0 : Int32) then
      cV 3 w4 a0 (bk (f_X4_think a0 w4) fun _ w6 =>
      loop4 (c_X4_named_39 a0 a1 a2) a_fuel (-4 : Int32) (-4 : Int32) (0 : Int32) w6)
    else
      some ((-1 : Int32), w4))
theorem s_X4_named (a0 : Nat) (a1 : Int32) (a2 : Int32) (w : aW) : Sp rvI M_X4_named [.ref a0, .int a1, .int a2] w (f_X4_named a0 a1 a2 w) := by
  refine e_entry [some (.ref a0), some (.int a1), some (.int a2), none, none, none] (by decide +kernel) (Nat.le_of_ble_eq_true rfl) (fun _ => rfl) ?_
  unfold f_X4_named
  refine e_aload_n (pc := 0) dX4_named_0 rfl rfl ?_
  refine e_iconst (pc := 1) dX4_named_1 kc_0 ?_
  refine e_put (pc := 2) dX4_named_2 hw_X4_80 (fun _ => rfl) (fun _ => rfl) (fun w1 => ?_)
  refine e_aload_n (pc := 5) dX4_named_5 rfl rfl ?_
  refine e_iload_n (pc := 6) dX4_named_6 rfl rfl ?_
  refine e_callV (pc := 7) (av := [.int a1]) (S := []) (c0 := 3) rfl rfl ok_X4_isBeast ⟨Nat.le_of_ble_eq_true rfl, Nat.le_of_ble_eq_true rfl⟩ hv_X4_185 dX4_named_7 (s_X4_isBeast a0 a1 w1) rfl rfl (Nat.le_of_ble_eq_true rfl) (fun x3 w2 => ?_)
  refine e_if_eq (pc := 10) (tgt := 23) dX4_named_10 (by decide) (fun _ => ?_) (fun _ => ?_)
  · refine e_iconst (pc := 23) dX4_named_23 kc_m1 ?_
    exact e_iret (pc := 24) dX4_named_24 rfl rfl
  · refine e_iload_n (pc := 13) dX4_named_13 rfl rfl ?_
    refine e_i2l (pc := 14) dX4_named_14 ?_
    refine e_lconst (pc := 15) (v := 0) dX4_named_15 (by decide) ?_
    refine e_lconst (pc := 16) (v := 1) dX4_named_16 (by decide) ?_
    refine e_callS (pc := 17) (av := [.long a2.toInt64, .long (0 : Int64), .long (1 : Int64)]) (S := []) ok_X4_in ⟨Nat.le_of_ble_eq_true rfl, Nat.le_of_ble_eq_true rfl⟩ ht_X4_86 dX4_named_17 (s_X4_in a2.toInt64 (0 : Int64) (1 : Int64) w2) rfl rfl (Nat.le_of_ble_eq_true rfl) (fun x5 w4 => ?_)
    refine e_if_ne (pc := 20) (tgt := 25) dX4_named_20 (by decide) (fun _ => ?_) (fun _ => ?_)
    · refine e_bipush (pc := 25) dX4_named_25 kb_m4 ?_
      refine e_istore_n (L' := [some (.ref a0), some (.int a1), some (.int a2), some (.int (-4 : Int32)), none, none]) (pc := 27) dX4_named_27 rfl (by decide) rfl ?_
      refine e_bipush (pc := 28) dX4_named_28 kb_m4 ?_
      refine e_istore (L' := [some (.ref a0), some (.int a1), some (.int a2), some (.int (-4 : Int32)), some (.int (-4 : Int32)), none]) (pc := 30) dX4_named_30 (by decide) rfl ?_
      refine e_aload_n (pc := 32) dX4_named_32 rfl rfl ?_
      refine e_callV (pc := 33) (av := []) (S := []) (c0 := 3) rfl rfl ok_X4_think ⟨Nat.le_of_ble_eq_true rfl, Nat.le_of_ble_eq_true rfl⟩ hv_X4_221 dX4_named_33 (s_X4_think a0 w4) rfl rfl (Nat.le_of_ble_eq_true rfl) (fun _ w6 => ?_)
      refine e_iconst (pc := 36) dX4_named_36 kc_0 ?_
      refine e_istore (L' := [some (.ref a0), some (.int a1), some (.int a2), some (.int (-4 : Int32)), some (.int (-4 : Int32)), some (.int (0 : Int32))]) (pc := 37) dX4_named_37 (by decide) rfl ?_
      exact e_loop4 (L := fun b3 b4 b5 => [some (.ref a0), some (.int a1), some (.int a2), some (.int b3), some (.int b4), some (.int b5)]) (S := fun b3 b4 b5 => []) (fun kf hkf => t_X4_named_39 a0 a1 a2  kf hkf) _ (-4 : Int32) (-4 : Int32) (0 : Int32) w6
    · refine e_iconst (pc := 23) dX4_named_23 kc_m1 ?_
      exact e_iret (pc := 24) dX4_named_24 rfl rfl
def M_X4_diesIn : aM := (yX4_diesIn, cX4_diesIn, 4, (some .int), 5, 113)
theorem ok_X4_diesIn : a_okM M_X4_diesIn 1 := ⟨⟨by decide +kernel, by decide +kernel⟩, by decide +kernel, a_in 1221 (by decide +kernel) rfl, a_in 79 (by decide +kernel) rfl⟩
theorem dX4_diesIn_0 : decode M_X4_diesIn.2.1 0 = .ok (.bipush 61, 2) := by decide +kernel
theorem dX4_diesIn_2 : decode M_X4_diesIn.2.1 2 = .ok (.istore_n 2, 1) := by decide +kernel
theorem dX4_diesIn_3 : decode M_X4_diesIn.2.1 3 = .ok (.aload_n 0, 1) := by decide +kernel
theorem dX4_diesIn_4 : decode M_X4_diesIn.2.1 4 = .ok (.invokevirtual 221, 3) := by decide +kernel
theorem dX4_diesIn_7 : decode M_X4_diesIn.2.1 7 = .ok (.iconst 0, 1) := by decide +kernel
theorem dX4_diesIn_8 : decode M_X4_diesIn.2.1 8 = .ok (.istore_n 3, 1) := by decide +kernel
theorem dX4_diesIn_9 : decode M_X4_diesIn.2.1 9 = .ok (.iload_n 3, 1) := by decide +kernel
theorem dX4_diesIn_10 : decode M_X4_diesIn.2.1 10 = .ok (.bipush 60, 2) := by decide +kernel
theorem dX4_diesIn_12 : decode M_X4_diesIn.2.1 12 = .ok (.if_icmp .gt 37, 3) := by decide +kernel
theorem dX4_diesIn_15 : decode M_X4_diesIn.2.1 15 = .ok (.iload_n 2, 1) := by decide +kernel
theorem dX4_diesIn_16 : decode M_X4_diesIn.2.1 16 = .ok (.bipush 61, 2) := by decide +kernel
theorem dX4_diesIn_18 : decode M_X4_diesIn.2.1 18 = .ok (.if_icmp .ne 31, 3) := by decide +kernel
theorem dX4_diesIn_21 : decode M_X4_diesIn.2.1 21 = .ok (.aload_n 0, 1) := by decide +kernel
theorem dX4_diesIn_22 : decode M_X4_diesIn.2.1 22 = .ok (.getfield 107, 3) := by decide +kernel
theorem dX4_diesIn_25 : decode M_X4_diesIn.2.1 25 = .ok (.iload_n 1, 1) := by decide +kernel
theorem dX4_diesIn_26 : decode M_X4_diesIn.2.1 26 = .ok (.invokestatic 110, 3) := by decide +kernel
theorem dX4_diesIn_29 : decode M_X4_diesIn.2.1 29 = .ok (.ifCond .eq 8, 3) := by decide +kernel
theorem dX4_diesIn_32 : decode M_X4_diesIn.2.1 32 = .ok (.bipush 61, 2) := by decide +kernel
theorem dX4_diesIn_34 : decode M_X4_diesIn.2.1 34 = .ok (.goto 4, 3) := by decide +kernel
theorem dX4_diesIn_37 : decode M_X4_diesIn.2.1 37 = .ok (.iload_n 3, 1) := by decide +kernel
theorem dX4_diesIn_38 : decode M_X4_diesIn.2.1 38 = .ok (.istore_n 2, 1) := by decide +kernel
theorem dX4_diesIn_39 : decode M_X4_diesIn.2.1 39 = .ok (.aload_n 0, 1) := by decide +kernel
theorem dX4_diesIn_40 : decode M_X4_diesIn.2.1 40 = .ok (.invokevirtual 149, 3) := by decide +kernel
theorem dX4_diesIn_43 : decode M_X4_diesIn.2.1 43 = .ok (.iinc 3 1, 3) := by decide +kernel
theorem dX4_diesIn_46 : decode M_X4_diesIn.2.1 46 = .ok (.goto (-37), 3) := by decide +kernel
theorem dX4_diesIn_49 : decode M_X4_diesIn.2.1 49 = .ok (.aload_n 0, 1) := by decide +kernel
theorem dX4_diesIn_50 : decode M_X4_diesIn.2.1 50 = .ok (.invokevirtual 227, 3) := by decide +kernel
theorem dX4_diesIn_53 : decode M_X4_diesIn.2.1 53 = .ok (.iload_n 2, 1) := by decide +kernel
theorem dX4_diesIn_54 : decode M_X4_diesIn.2.1 54 = .ok (.ireturn, 1) := by decide +kernel
def c_X4_diesIn_9 (a0 : Nat) (a1 : Int32) (k9 : Int32 → Int32 → aW → Option (Int32 × aW)) (b2 : Int32) (b3 : Int32) (w : aW) : Option (Int32 × aW) :=
  if (60 : Int32) < b3 then
    cV 3 w a0 (bk (f_X4_again a0 w) fun _ w2 =>
    some (b2, w2))
  else
    if ¬ b2 = (61 : Int32) then
      cV 3 w a0 (bk (f_X4_again a0 w) fun _ w3 =>
      some (b2, w3))
    else
      (gI 3 w a0 6).bind fun x4 =>
      bk (f_X4_hasBit x4 a1 w) fun x6 w5 =>
      if x6 = (0 : Int32) then
        cV 3 w5 a0 (bk (f_X4_dayOn a0 w5) fun _ w7 =>
        k9 b3 (b3 + 1) w7)
      else
        cV 3 w5 a0 (bk (f_X4_dayOn a0 w5) fun _ w8 =>
        k9 (61 : Int32) (b3 + 1) w8)
theorem t_X4_diesIn_9 (a0 : Nat) (a1 : Int32) (k9 : Int32 → Int32 → aW → Option (Int32 × aW)) (hk9 : ∀ (b2 : Int32) (b3 : Int32) (w : aW), Ev rvI M_X4_diesIn 9 [some (.ref a0), some (.int a1), some (.int b2), some (.int b3)] [] w (k9 b2 b3 w)) (b2 : Int32) (b3 : Int32) (w : aW) : Ev rvI M_X4_diesIn 9 [some (.ref a0), some (.int a1), some (.int b2), some (.int b3)] [] w (c_X4_diesIn_9 a0 a1 k9 b2 b3 w) := by
  unfold c_X4_diesIn_9
  refine e_iload_n (pc := 9) dX4_diesIn_9 rfl rfl ?_
  refine e_bipush (pc := 10) dX4_diesIn_10 kb_60 ?_
  refine e_icmp_gt (pc := 12) (tgt := 49) dX4_diesIn_12 (by decide) (fun _ => ?_) (fun _ => ?_)
  · refine e_aload_n (pc := 49) dX4_diesIn_49 rfl rfl ?_
    refine e_callV (pc := 50) (av := []) (S := []) (c0 := 3) rfl rfl ok_X4_again ⟨Nat.le_of_ble_eq_true rfl, Nat.le_of_ble_eq_true rfl⟩ hv_X4_227 dX4_diesIn_50 (s_X4_again a0 w) rfl rfl (Nat.le_of_ble_eq_true rfl) (fun _ w2 => ?_)
    refine e_iload_n (pc := 53) dX4_diesIn_53 rfl rfl ?_
    exact e_iret (pc := 54) dX4_diesIn_54 rfl rfl
  · refine e_iload_n (pc := 15) dX4_diesIn_15 rfl rfl ?_
    refine e_bipush (pc := 16) dX4_diesIn_16 kb_61 ?_
    refine e_icmp_ne (pc := 18) (tgt := 49) dX4_diesIn_18 (by decide) (fun _ => ?_) (fun _ => ?_)
    · refine e_aload_n (pc := 49) dX4_diesIn_49 rfl rfl ?_
      refine e_callV (pc := 50) (av := []) (S := []) (c0 := 3) rfl rfl ok_X4_again ⟨Nat.le_of_ble_eq_true rfl, Nat.le_of_ble_eq_true rfl⟩ hv_X4_227 dX4_diesIn_50 (s_X4_again a0 w) rfl rfl (Nat.le_of_ble_eq_true rfl) (fun _ w3 => ?_)
      refine e_iload_n (pc := 53) dX4_diesIn_53 rfl rfl ?_
      exact e_iret (pc := 54) dX4_diesIn_54 rfl rfl
    · refine e_aload_n (pc := 21) dX4_diesIn_21 rfl rfl ?_
      refine e_getI (pc := 22) dX4_diesIn_22 hs_X4_107 (fun x4 => ?_)
      refine e_iload_n (pc := 25) dX4_diesIn_25 rfl rfl ?_
      refine e_callS (pc := 26) (av := [.int x4, .int a1]) (S := []) ok_X4_hasBit ⟨Nat.le_of_ble_eq_true rfl, Nat.le_of_ble_eq_true rfl⟩ ht_X4_110 dX4_diesIn_26 (s_X4_hasBit x4 a1 w) rfl rfl (Nat.le_of_ble_eq_true rfl) (fun x6 w5 => ?_)
      refine e_if_eq (pc := 29) (tgt := 37) dX4_diesIn_29 (by decide) (fun _ => ?_) (fun _ => ?_)
      · refine e_iload_n (pc := 37) dX4_diesIn_37 rfl rfl ?_
        refine e_istore_n (L' := [some (.ref a0), some (.int a1), some (.int b3), some (.int b3)]) (pc := 38) dX4_diesIn_38 rfl (by decide) rfl ?_
        refine e_aload_n (pc := 39) dX4_diesIn_39 rfl rfl ?_
        refine e_callV (pc := 40) (av := []) (S := []) (c0 := 3) rfl rfl ok_X4_dayOn ⟨Nat.le_of_ble_eq_true rfl, Nat.le_of_ble_eq_true rfl⟩ hv_X4_149 dX4_diesIn_40 (s_X4_dayOn a0 w5) rfl rfl (Nat.le_of_ble_eq_true rfl) (fun _ w7 => ?_)
        refine e_iinc (L' := [some (.ref a0), some (.int a1), some (.int b3), some (.int (b3 + 1))]) (pc := 43) (v := 1) dX4_diesIn_43 (by decide) rfl kc_1 rfl ?_
        refine e_goto (pc := 46) (tgt := 9) dX4_diesIn_46 (by decide) ?_
        exact hk9 b3 (b3 + 1) w7
      · refine e_bipush (pc := 32) dX4_diesIn_32 kb_61 ?_
        refine e_goto (pc := 34) (tgt := 38) dX4_diesIn_34 (by decide) ?_
        refine e_istore_n (L' := [some (.ref a0), some (.int a1), some (.int (61 : Int32)), some (.int b3)]) (pc := 38) dX4_diesIn_38 rfl (by decide) rfl ?_
        refine e_aload_n (pc := 39) dX4_diesIn_39 rfl rfl ?_
        refine e_callV (pc := 40) (av := []) (S := []) (c0 := 3) rfl rfl ok_X4_dayOn ⟨Nat.le_of_ble_eq_true rfl, Nat.le_of_ble_eq_true rfl⟩ hv_X4_149 dX4_diesIn_40 (s_X4_dayOn a0 w5) rfl rfl (Nat.le_of_ble_eq_true rfl) (fun _ w8 => ?_)
        refine e_iinc (L' := [some (.ref a0), some (.int a1), some (.int (61 : Int32)), some (.int (b3 + 1))]) (pc := 43) (v := 1) dX4_diesIn_43 (by decide) rfl kc_1 rfl ?_
        refine e_goto (pc := 46) (tgt := 9) dX4_diesIn_46 (by decide) ?_
        exact hk9 (61 : Int32) (b3 + 1) w8
def f_X4_diesIn (a0 : Nat) (a1 : Int32) (w : aW) : Option (Int32 × aW) :=
  cV 3 w a0 (bk (f_X4_think a0 w) fun _ w1 =>
  loop3 (c_X4_diesIn_9 a0 a1) a_fuel (61 : Int32) (0 : Int32) w1)
theorem s_X4_diesIn (a0 : Nat) (a1 : Int32) (w : aW) : Sp rvI M_X4_diesIn [.ref a0, .int a1] w (f_X4_diesIn a0 a1 w) := by
  refine e_entry [some (.ref a0), some (.int a1), none, none] (by decide +kernel) (Nat.le_of_ble_eq_true rfl) (fun _ => rfl) ?_
  unfold f_X4_diesIn
  refine e_bipush (pc := 0) dX4_diesIn_0 kb_61 ?_
  refine e_istore_n (L' := [some (.ref a0), some (.int a1), some (.int (61 : Int32)), none]) (pc := 2) dX4_diesIn_2 rfl (by decide) rfl ?_
  refine e_aload_n (pc := 3) dX4_diesIn_3 rfl rfl ?_
  refine e_callV (pc := 4) (av := []) (S := []) (c0 := 3) rfl rfl ok_X4_think ⟨Nat.le_of_ble_eq_true rfl, Nat.le_of_ble_eq_true rfl⟩ hv_X4_221 dX4_diesIn_4 (s_X4_think a0 w) rfl rfl (Nat.le_of_ble_eq_true rfl) (fun _ w1 => ?_)
  refine e_iconst (pc := 7) dX4_diesIn_7 kc_0 ?_
  refine e_istore_n (L' := [some (.ref a0), some (.int a1), some (.int (61 : Int32)), some (.int (0 : Int32))]) (pc := 8) dX4_diesIn_8 rfl (by decide) rfl ?_
  exact e_loop3 (L := fun b2 b3 => [some (.ref a0), some (.int a1), some (.int b2), some (.int b3)]) (S := fun b2 b3 => []) (fun kf hkf => t_X4_diesIn_9 a0 a1  kf hkf) _ (61 : Int32) (0 : Int32) w1
