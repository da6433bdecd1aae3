def M_X3_toss : aM := (yX3_toss, cX3_toss, 5, some .int, 7, 140)
abbrev hhT : List (Nat × Nat × Nat × Nat) := [(23, 34, 37, 297), (23, 34, 44, 304), (23, 34, 54, 334)]
theorem dX3_toss_0 : decode M_X3_toss.2.1 0 = .ok (.aload_n 0, 1) := by decide +kernel
theorem dX3_toss_1 : decode M_X3_toss.2.1 1 = .ok (.iload_n 1, 1) := by decide +kernel
theorem dX3_toss_2 : decode M_X3_toss.2.1 2 = .ok (.invokevirtual 40, 3) := by decide +kernel
theorem dX3_toss_5 : decode M_X3_toss.2.1 5 = .ok (.astore_n 2, 1) := by decide +kernel
theorem dX3_toss_6 : decode M_X3_toss.2.1 6 = .ok (.aload_n 2, 1) := by decide +kernel
theorem dX3_toss_7 : decode M_X3_toss.2.1 7 = .ok (.ifnonnull 5, 3) := by decide +kernel
theorem dX3_toss_10 : decode M_X3_toss.2.1 10 = .ok (.iconst (-1), 1) := by decide +kernel
theorem dX3_toss_11 : decode M_X3_toss.2.1 11 = .ok (.ireturn, 1) := by decide +kernel
theorem dX3_toss_12 : decode M_X3_toss.2.1 12 = .ok (.aload_n 2, 1) := by decide +kernel
theorem dX3_toss_13 : decode M_X3_toss.2.1 13 = .ok (.invokevirtual 103, 3) := by decide +kernel
theorem dX3_toss_16 : decode M_X3_toss.2.1 16 = .ok (.istore_n 3, 1) := by decide +kernel
theorem dX3_toss_17 : decode M_X3_toss.2.1 17 = .ok (.iload_n 3, 1) := by decide +kernel
theorem dX3_toss_18 : decode M_X3_toss.2.1 18 = .ok (.ifCond .eq 5, 3) := by decide +kernel
theorem dX3_toss_21 : decode M_X3_toss.2.1 21 = .ok (.iload_n 3, 1) := by decide +kernel
theorem dX3_toss_22 : decode M_X3_toss.2.1 22 = .ok (.ireturn, 1) := by decide +kernel
theorem dX3_toss_23 : decode M_X3_toss.2.1 23 = .ok (.aload_n 2, 1) := by decide +kernel
theorem dX3_toss_24 : decode M_X3_toss.2.1 24 = .ok (.getfield 107, 3) := by decide +kernel
theorem dX3_toss_27 : decode M_X3_toss.2.1 27 = .ok (.aload_n 2, 1) := by decide +kernel
theorem dX3_toss_28 : decode M_X3_toss.2.1 28 = .ok (.getfield 110, 3) := by decide +kernel
theorem dX3_toss_31 : decode M_X3_toss.2.1 31 = .ok (.invokestatic 331, 3) := by decide +kernel
theorem dX3_toss_34 : decode M_X3_toss.2.1 34 = .ok (.goto 38, 3) := by decide +kernel
theorem dX3_toss_37 : decode M_X3_toss.2.1 37 = .ok (.astore 4, 2) := by decide +kernel
theorem dX3_toss_39 : decode M_X3_toss.2.1 39 = .ok (.aload_n 2, 1) := by decide +kernel
theorem dX3_toss_40 : decode M_X3_toss.2.1 40 = .ok (.getfield 110, 3) := by decide +kernel
theorem dX3_toss_43 : decode M_X3_toss.2.1 43 = .ok (.ireturn, 1) := by decide +kernel
theorem dX3_toss_44 : decode M_X3_toss.2.1 44 = .ok (.astore 4, 2) := by decide +kernel
theorem dX3_toss_46 : decode M_X3_toss.2.1 46 = .ok (.bipush 100, 2) := by decide +kernel
theorem dX3_toss_48 : decode M_X3_toss.2.1 48 = .ok (.aload_n 2, 1) := by decide +kernel
theorem dX3_toss_49 : decode M_X3_toss.2.1 49 = .ok (.getfield 110, 3) := by decide +kernel
theorem dX3_toss_52 : decode M_X3_toss.2.1 52 = .ok (.iadd, 1) := by decide +kernel
theorem dX3_toss_53 : decode M_X3_toss.2.1 53 = .ok (.ireturn, 1) := by decide +kernel
theorem dX3_toss_54 : decode M_X3_toss.2.1 54 = .ok (.astore 4, 2) := by decide +kernel
theorem dX3_toss_56 : decode M_X3_toss.2.1 56 = .ok (.sipush 200, 3) := by decide +kernel
theorem dX3_toss_59 : decode M_X3_toss.2.1 59 = .ok (.aload_n 2, 1) := by decide +kernel
theorem dX3_toss_60 : decode M_X3_toss.2.1 60 = .ok (.getfield 107, 3) := by decide +kernel
theorem dX3_toss_63 : decode M_X3_toss.2.1 63 = .ok (.aload_n 2, 1) := by decide +kernel
theorem dX3_toss_64 : decode M_X3_toss.2.1 64 = .ok (.getfield 110, 3) := by decide +kernel
theorem dX3_toss_67 : decode M_X3_toss.2.1 67 = .ok (.invokestatic 326, 3) := by decide +kernel
theorem dX3_toss_70 : decode M_X3_toss.2.1 70 = .ok (.iadd, 1) := by decide +kernel
theorem dX3_toss_71 : decode M_X3_toss.2.1 71 = .ok (.ireturn, 1) := by decide +kernel
theorem dX3_toss_72 : decode M_X3_toss.2.1 72 = .ok (.bipush (-15), 2) := by decide +kernel
theorem dX3_toss_74 : decode M_X3_toss.2.1 74 = .ok (.ireturn, 1) := by decide +kernel
theorem xk_t3 : Cond.classLink RX3 334 sUO ∈ a_T := a_in 741 (by decide +kernel) rfl
theorem xc_1 : Cond.castable sIA sIA ∈ a_Xs := List.mem_filter.mpr ⟨List.mem_of_getElem? (i := 747) (by decide +kernel), rfl⟩
theorem xc_2 : Cond.castable sIS sIS ∈ a_Xs := List.mem_filter.mpr ⟨List.mem_of_getElem? (i := 815) (by decide +kernel), rfl⟩
theorem xc_3 : Cond.castable sUO sUO ∈ a_Xs := List.mem_filter.mpr ⟨List.mem_of_getElem? (i := 831) (by decide +kernel), rfl⟩
theorem ht_X3_331 : a_okS RX3 M_X2_fail 331 := ⟨a_in 742 (by decide +kernel) rfl, a_in 743 (by decide +kernel) rfl⟩
def tb1 : ExceptionTableEntry := ⟨23, 34, 37, 297⟩
def tb2 : ExceptionTableEntry := ⟨23, 34, 44, 304⟩
def tb3 : ExceptionTableEntry := ⟨23, 34, 54, 334⟩
theorem tbT : tableOf hhT = [tb1, tb2, tb3] := by rfl
theorem failU_cases (s k : Int32) : (failU s k = .inl () ∧ failI s k = -15) ∨ (failU s k = .inr sIA ∧ failI s k = k) ∨ (failU s k = .inr sIS ∧ failI s k = 100 + k) ∨ (failU s k = .inr sUO ∧ failI s k = 200 + costI s k) := by
  unfold failU failI
  by_cases h1 : k = 0
  · exact Or.inl ⟨by rw [if_pos h1], by rw [if_pos h1]⟩
  by_cases h2 : s = 0
  · exact Or.inr (Or.inl ⟨by rw [if_neg h1, if_pos h2], by rw [if_neg h1, if_pos h2]⟩)
  by_cases h3 : s = 1 ∨ s = 4
  · exact Or.inl ⟨by rw [if_neg h1, if_neg h2, if_pos h3], by rw [if_neg h1, if_neg h2, if_pos h3]⟩
  by_cases h4 : s = 5 ∨ s = 7
  · exact Or.inr (Or.inr (Or.inr ⟨by rw [if_neg h1, if_neg h2, if_neg h3, if_pos h4], by rw [if_neg h1, if_neg h2, if_neg h3, if_pos h4]⟩))
  · exact Or.inr (Or.inr (Or.inl ⟨by rw [if_neg h1, if_neg h2, if_neg h3, if_neg h4], by rw [if_neg h1, if_neg h2, if_neg h3, if_neg h4]⟩))
theorem bea_kind {ν : aS} (h : beaR ν = 0) : ν.1 0 = 1 := by
  unfold beaR at h
  by_cases h0 : ν.1 0 = 0
  · rw [if_neg (fun q => q h0)] at h; exact absurd h (by decide)
  · rw [if_pos h0] at h
    by_cases h1 : ν.1 0 = 1
    · exact h1
    · rw [if_pos h1] at h; exact absurd h (by decide)
theorem L_4 {a b c e : Option Value} (hc : ∀ v, e = some v → ¬ v.category = 2) : ∀ (j : Nat) (v : Value), ([a, b, c, e, none] : List (Option Value))[j]? = some (some v) → j ≠ 4 ∧ ¬ (j + 1 = 4 ∧ v.category = 2) := by
  intro j v h
  rcases j with _ | _ | _ | _ | _ | j
  · exact ⟨by decide, fun q => absurd q.1 (by decide)⟩
  · exact ⟨by decide, fun q => absurd q.1 (by decide)⟩
  · exact ⟨by decide, fun q => absurd q.1 (by decide)⟩
  · have h2 : e = some v := by simpa using h
    exact ⟨by decide, fun q => hc v h2 q.2⟩
  · simp at h
  · simp at h
theorem X_toss (w : aW) (X : aX) (hS : ∀ d, d < 8 → WFs (X.2.2.2.2.1 d)) (x : Int32) : Yp rvI M_X3_toss hhT [.ref 0, .int x] (putX w X) (tossK x X.2.2.2.2.1, putX w X) := by
  refine y_entry [some (.ref 0), some (.int x), none, none, none] (by decide +kernel) (Nat.le_of_ble_eq_true rfl) (fun _ => rfl) (fun K hM hK hE => ?_)
  obtain ⟨M, K'⟩ := K
  have hM : M = M_X3_toss := hM
  subst hM
  have hR : gK.R (M_X3_toss, K') = a_RX M_X3_toss := hE.2.2.1
  have hf : 0 ≤ (gK.R (M_X3_toss, K')).cells ∧ 0 ≤ (gK.R (M_X3_toss, K')).slots := ⟨Nat.zero_le _, Nat.zero_le _⟩
  have hf1 : 1 ≤ (gK.R (M_X3_toss, K')).cells ∧ 6 ≤ (gK.R (M_X3_toss, K')).slots := by rw [hR]; exact ⟨Nat.le_refl 1, Nat.le_refl 6⟩
  have hX := hE.2.2.2.2.2
  have hl0 := hE.2.2.2.2.1
  have hT : (gK.c (M_X3_toss, K')).exceptionTable.toList = [tb1, tb2, tb3] := hE.2.2.2.1.trans tbT
  refine g_aload_n (pc := 0) hK dX3_toss_0 rfl rfl ?_
  refine g_iload_n (pc := 1) hK dX3_toss_1 rfl rfl ?_
  by_cases h1 : inR x 0 7 = true
  · obtain ⟨d, hd, rfl⟩ := in7 h1
    refine g_callV (pc := 2) (rv' := rvR) (c0 := 2) (S := []) hK hf rfl rfl ok_X3_shelfAt (by rw [hR]; exact ⟨Nat.le_of_ble_eq_true rfl, Nat.le_of_ble_eq_true rfl⟩) hv_X3_40 dX3_toss_2 ⟨by decide, _, rfl⟩ (s_X3_shelfAt 0 _ _) (x_shelfAt w X hd) rfl rfl (Nat.le_of_ble_eq_true rfl) ?_
    refine g_astore_n (pc := 5) hK dX3_toss_5 rfl (show 2 < 5 by decide) rfl ?_
    refine g_aload_n (pc := 6) hK dX3_toss_6 rfl rfl ?_
    refine g_ifnonnull (pc := 7) (tgt := 12) hK dX3_toss_7 (by decide) ?_
    refine g_aload_n (pc := 12) hK dX3_toss_12 rfl rfl ?_
    refine g_callV (pc := 13) (rv' := rvI) (c0 := 1) (S := []) hK hf rfl rfl ok_X1_beastRefusal (by rw [hR]; exact ⟨Nat.le_of_ble_eq_true rfl, Nat.le_of_ble_eq_true rfl⟩) hv_X3_103 dX3_toss_13 (S_isO w X hd) (s_X1_beastRefusal _ _) (S_beastRefusal w X hd) rfl rfl (Nat.le_of_ble_eq_true rfl) ?_
    refine g_istore_n (pc := 16) hK dX3_toss_16 rfl (show 3 < 5 by decide) rfl ?_
    refine g_iload_n (pc := 17) hK dX3_toss_17 rfl rfl ?_
    by_cases h2 : beaR (X.2.2.2.2.1 d) = 0
    · have e : tossK (nI d) X.2.2.2.2.1 = failI ((X.2.2.2.2.1 d).1 1) ((X.2.2.2.2.1 d).1 2) := by unfold tossK; rw [if_pos h1, ix7 hd, if_pos h2]
      rw [e] at hE
      obtain ⟨⟨s, hs, es⟩, -⟩ := (hS d hd).2.2 (bea_kind h2)
      have hfail := X_fail (i := s) hs ((X.2.2.2.2.1 d).1 2) (putX w X)
      rw [← es] at hfail
      refine g_if_eqT (pc := 18) (tgt := 23) hK dX3_toss_18 (by decide) h2 ?_
      refine g_aload_n (pc := 23) hK dX3_toss_23 rfl rfl ?_
      refine g_getI (pc := 24) hK dX3_toss_24 hs_X3_107 (S_gI1 w X hd) ?_
      refine g_aload_n (pc := 27) hK dX3_toss_27 rfl rfl ?_
      refine g_getI (pc := 28) hK dX3_toss_28 hs_X3_110 (S_gI2 w X hd) ?_
      refine y_callS (pc := 31) (rv' := rvV) (S := []) hK hl0 hX hf1 ok_X2_fail (by rw [hR]; exact ⟨Nat.le_of_ble_eq_true rfl, Nat.le_of_ble_eq_true rfl⟩) ht_X3_331 dX3_toss_31 hfail rfl rfl (Nat.le_of_ble_eq_true rfl) ?_ ?_
      · intro r hr
        rcases failU_cases ((X.2.2.2.2.1 d).1 1) ((X.2.2.2.2.1 d).1 2) with ⟨q1, q2⟩ | ⟨q1, q2⟩ | ⟨q1, q2⟩ | ⟨q1, q2⟩
        · rw [q2] at hE
          refine g_goto (pc := 34) (tgt := 72) hK dX3_toss_34 (by decide) ?_
          refine g_bipush (pc := 72) hK dX3_toss_72 kb_m15 ?_
          exact y_iret (pc := 74) hK hE (Nat.le_refl 1) (Nat.le_refl 6) dX3_toss_74 rfl
        · rw [q1] at hr; cases hr
        · rw [q1] at hr; cases hr
        · rw [q1] at hr; cases hr
      · intro E hr
        rcases failU_cases ((X.2.2.2.2.1 d).1 1) ((X.2.2.2.2.1 d).1 2) with ⟨q1, q2⟩ | ⟨q1, q2⟩ | ⟨q1, q2⟩ | ⟨q1, q2⟩
        · rw [q1] at hr; cases hr
        · rw [q1] at hr
          cases Sum.inr.inj hr
          rw [q2] at hE
          refine y_catch (nm := sIA) hK hX [] tb1 [tb2, tb3] hT (fun z hz => absurd hz List.not_mem_nil) (by decide) (by decide) xk_e1 xc_1 rfl dX3_toss_37 (show 4 < 5 by decide) (L_4 (fun v h => by cases h; exact (by decide : ¬ (1 : Nat) = 2))) ?_
          refine g_aload_n (pc := 39) hK dX3_toss_39 rfl rfl ?_
          refine g_getI (pc := 40) hK dX3_toss_40 hs_X3_110 (S_gI2 w X hd) ?_
          exact y_iret (pc := 43) hK hE (Nat.le_refl 1) (Nat.le_refl 6) dX3_toss_43 rfl
        · rw [q1] at hr
          cases Sum.inr.inj hr
          rw [q2] at hE
          refine y_catch (nm := sIS) hK hX [tb1] tb2 [tb3] hT (fun z hz => by
            rw [List.mem_singleton] at hz
            subst hz
            exact Or.inr ⟨by decide, sIA, xk_e1, hX.2.2.2.1⟩) (by decide) (by decide) xk_e2 xc_2 rfl dX3_toss_44 (show 4 < 5 by decide) (L_4 (fun v h => by cases h; exact (by decide : ¬ (1 : Nat) = 2))) ?_
          refine g_bipush (pc := 46) hK dX3_toss_46 kb_100 ?_
          refine g_aload_n (pc := 48) hK dX3_toss_48 rfl rfl ?_
          refine g_getI (pc := 49) hK dX3_toss_49 hs_X3_110 (S_gI2 w X hd) ?_
          refine g_iadd (pc := 52) hK dX3_toss_52 ?_
          exact y_iret (pc := 53) hK hE (Nat.le_refl 1) (Nat.le_refl 6) dX3_toss_53 rfl
        · rw [q1] at hr
          cases Sum.inr.inj hr
          rw [q2] at hE
          refine y_catch (nm := sUO) hK hX [tb1, tb2] tb3 [] hT (fun z hz => by
            rcases List.mem_cons.mp hz with rfl | hz
            · exact Or.inr ⟨by decide, sIA, xk_e1, hX.2.2.2.2.1⟩
            · rw [List.mem_singleton] at hz
              subst hz
              exact Or.inr ⟨by decide, sIS, xk_e2, hX.2.2.2.2.2⟩) (by decide) (by decide) xk_t3 xc_3 rfl dX3_toss_54 (show 4 < 5 by decide) (L_4 (fun v h => by cases h; exact (by decide : ¬ (1 : Nat) = 2))) ?_
          refine g_sipush (pc := 56) hK dX3_toss_56 ks_200 ?_
          refine g_aload_n (pc := 59) hK dX3_toss_59 rfl rfl ?_
          refine g_getI (pc := 60) hK dX3_toss_60 hs_X3_107 (S_gI1 w X hd) ?_
          refine g_aload_n (pc := 63) hK dX3_toss_63 rfl rfl ?_
          refine g_getI (pc := 64) hK dX3_toss_64 hs_X3_110 (S_gI2 w X hd) ?_
          refine g_callS (pc := 67) (rv' := rvI) (av := [.int ((X.2.2.2.2.1 d).1 1), .int ((X.2.2.2.2.1 d).1 2)]) (S := [.int (200 : Int32)]) hK hf1 ok_X2_costOf (by rw [hR]; exact ⟨Nat.le_of_ble_eq_true rfl, Nat.le_of_ble_eq_true rfl⟩) ht_X3_326 dX3_toss_67 (s_X2_costOf _ _ _) (p_costOf _ _ _) rfl rfl (Nat.le_of_ble_eq_true rfl) ?_
          refine g_iadd (pc := 70) hK dX3_toss_70 ?_
          exact y_iret (pc := 71) hK hE (Nat.le_refl 1) (Nat.le_refl 6) dX3_toss_71 rfl
    · have e : tossK (nI d) X.2.2.2.2.1 = beaR (X.2.2.2.2.1 d) := by unfold tossK; rw [if_pos h1, ix7 hd, if_neg h2]
      rw [e] at hE
      refine g_if_eqF (pc := 18) (tgt := 23) hK dX3_toss_18 (by decide) h2 ?_
      refine g_iload_n (pc := 21) hK dX3_toss_21 rfl rfl ?_
      exact y_iret (pc := 22) hK hE (by decide) (by decide) dX3_toss_22 rfl
  · have e : tossK x X.2.2.2.2.1 = -1 := by unfold tossK; rw [if_neg h1]
    rw [e] at hE
    refine g_callV (pc := 2) (rv' := rvR) (c0 := 2) (S := []) hK hf rfl rfl ok_X3_shelfAt (by rw [hR]; exact ⟨Nat.le_of_ble_eq_true rfl, Nat.le_of_ble_eq_true rfl⟩) hv_X3_40 dX3_toss_2 ⟨by decide, _, rfl⟩ (s_X3_shelfAt 0 _ _) (x_shelfNo w X (Bool.eq_false_iff.mpr h1)) rfl rfl (Nat.le_of_ble_eq_true rfl) ?_
    refine g_astore_nN (pc := 5) hK dX3_toss_5 rfl (show 2 < 5 by decide) rfl ?_
    refine g_aload_nN (pc := 6) hK dX3_toss_6 rfl rfl ?_
    refine g_ifnonnullN (pc := 7) hK dX3_toss_7 ?_
    refine g_iconst (pc := 10) hK dX3_toss_10 kc_m1 ?_
    exact y_iret (pc := 11) hK hE (by decide) (by decide) dX3_toss_11 rfl
