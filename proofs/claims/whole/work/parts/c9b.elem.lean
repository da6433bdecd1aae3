def M_X3_element : aM := (yX3_element, cX3_element, 4, some .long, 7, 140)
theorem ok_X3_element : a_okM M_X3_element 2 := ⟨⟨by decide +kernel, by decide +kernel⟩, by decide +kernel, a_in 853 (by decide +kernel) rfl, a_in 76 (by decide +kernel) rfl⟩
theorem dX3_element_0 : decode M_X3_element.2.1 0 = .ok (.aload_n 0, 1) := by decide +kernel
theorem dX3_element_1 : decode M_X3_element.2.1 1 = .ok (.iload_n 1, 1) := by decide +kernel
theorem dX3_element_2 : decode M_X3_element.2.1 2 = .ok (.invokevirtual 40, 3) := by decide +kernel
theorem dX3_element_5 : decode M_X3_element.2.1 5 = .ok (.astore_n 3, 1) := by decide +kernel
theorem dX3_element_6 : decode M_X3_element.2.1 6 = .ok (.aload_n 3, 1) := by decide +kernel
theorem dX3_element_7 : decode M_X3_element.2.1 7 = .ok (.ifnonnull 14, 3) := by decide +kernel
theorem dX3_element_10 : decode M_X3_element.2.1 10 = .ok (.new 297, 3) := by decide +kernel
theorem dX3_element_13 : decode M_X3_element.2.1 13 = .ok (.dup, 1) := by decide +kernel
theorem dX3_element_14 : decode M_X3_element.2.1 14 = .ok (.ldc_w 299, 3) := by decide +kernel
theorem dX3_element_17 : decode M_X3_element.2.1 17 = .ok (.invokespecial 301, 3) := by decide +kernel
theorem dX3_element_20 : decode M_X3_element.2.1 20 = .ok (.athrow, 1) := by decide +kernel
theorem dX3_element_21 : decode M_X3_element.2.1 21 = .ok (.aload_n 3, 1) := by decide +kernel
theorem dX3_element_22 : decode M_X3_element.2.1 22 = .ok (.invokevirtual 223, 3) := by decide +kernel
theorem dX3_element_25 : decode M_X3_element.2.1 25 = .ok (.ifCond .eq 14, 3) := by decide +kernel
theorem dX3_element_28 : decode M_X3_element.2.1 28 = .ok (.new 304, 3) := by decide +kernel
theorem dX3_element_31 : decode M_X3_element.2.1 31 = .ok (.dup, 1) := by decide +kernel
theorem dX3_element_32 : decode M_X3_element.2.1 32 = .ok (.ldc_w 306, 3) := by decide +kernel
theorem dX3_element_35 : decode M_X3_element.2.1 35 = .ok (.invokespecial 308, 3) := by decide +kernel
theorem dX3_element_38 : decode M_X3_element.2.1 38 = .ok (.athrow, 1) := by decide +kernel
theorem dX3_element_39 : decode M_X3_element.2.1 39 = .ok (.iload_n 2, 1) := by decide +kernel
theorem dX3_element_40 : decode M_X3_element.2.1 40 = .ok (.iconst 0, 1) := by decide +kernel
theorem dX3_element_41 : decode M_X3_element.2.1 41 = .ok (.aload_n 3, 1) := by decide +kernel
theorem dX3_element_42 : decode M_X3_element.2.1 42 = .ok (.getfield 59, 3) := by decide +kernel
theorem dX3_element_45 : decode M_X3_element.2.1 45 = .ok (.iconst 1, 1) := by decide +kernel
theorem dX3_element_46 : decode M_X3_element.2.1 46 = .ok (.isub, 1) := by decide +kernel
theorem dX3_element_47 : decode M_X3_element.2.1 47 = .ok (.invokestatic 87, 3) := by decide +kernel
theorem dX3_element_50 : decode M_X3_element.2.1 50 = .ok (.ifCond .ne 14, 3) := by decide +kernel
theorem dX3_element_53 : decode M_X3_element.2.1 53 = .ok (.new 304, 3) := by decide +kernel
theorem dX3_element_56 : decode M_X3_element.2.1 56 = .ok (.dup, 1) := by decide +kernel
theorem dX3_element_57 : decode M_X3_element.2.1 57 = .ok (.ldc_w 309, 3) := by decide +kernel
theorem dX3_element_60 : decode M_X3_element.2.1 60 = .ok (.invokespecial 308, 3) := by decide +kernel
theorem dX3_element_63 : decode M_X3_element.2.1 63 = .ok (.athrow, 1) := by decide +kernel
theorem dX3_element_64 : decode M_X3_element.2.1 64 = .ok (.aload_n 3, 1) := by decide +kernel
theorem dX3_element_65 : decode M_X3_element.2.1 65 = .ok (.iload_n 2, 1) := by decide +kernel
theorem dX3_element_66 : decode M_X3_element.2.1 66 = .ok (.invokevirtual 66, 3) := by decide +kernel
theorem dX3_element_69 : decode M_X3_element.2.1 69 = .ok (.i2l, 1) := by decide +kernel
theorem dX3_element_70 : decode M_X3_element.2.1 70 = .ok (.lreturn, 1) := by decide +kernel
theorem xk_e1 : Cond.classLink RX3 297 sIA ∈ a_T := a_in 739 (by decide +kernel) rfl
theorem xi_e1 : Cond.initialized sIA ∈ a_T := a_in 88 (by decide +kernel) rfl
theorem xw_e1 : ∀ w ∈ vx_atS RX3 301 sIA sNm, w ∈ lw_tbl := by decide +kernel
theorem xg_e1 : (vx_atS RX3 301 sIA sNm).all (fun w => goodWord w || a_isX w) = true := by decide +kernel
theorem xo_e1 : ∀ w ∈ Cond.classLink RX3 297 sIA :: Cond.initialized sIA :: vx_atS RX3 301 sIA sNm, vx_ot w = true := by decide +kernel
theorem xk_e2 : Cond.classLink RX3 304 sIS ∈ a_T := a_in 740 (by decide +kernel) rfl
theorem xi_e2 : Cond.initialized sIS ∈ a_T := a_in 89 (by decide +kernel) rfl
theorem xw_e2 : ∀ w ∈ vx_atS RX3 308 sIS sNm, w ∈ lw_tbl := by decide +kernel
theorem xg_e2 : (vx_atS RX3 308 sIS sNm).all (fun w => goodWord w || a_isX w) = true := by decide +kernel
theorem xo_e2 : ∀ w ∈ Cond.classLink RX3 304 sIS :: Cond.initialized sIS :: vx_atS RX3 308 sIS sNm, vx_ot w = true := by decide +kernel
theorem S_isO (w : aW) (X : aX) {d : Nat} (hd : d < 8) : a_isO 1 (putX w X) (34 + 2 * d) := by
  apply a_isOb_spec
  have h := S_cV w X hd (x := some ())
  unfold cV at h
  by_cases hb : a_isOb 1 (putX w X) (34 + 2 * d) = true
  · exact hb
  · rw [if_neg hb] at h; cases h
def resE (p : Int32 × Int64) : Int64 ⊕ String := if p.1 = 0 then .inl p.2 else if p.1 = 1 then .inr sIA else .inr sIS
theorem resE_0 (v : Int64) : resE (0, v) = .inl v := rfl
theorem resE_1 (v : Int64) : resE (1, v) = .inr sIA := rfl
theorem resE_2 (v : Int64) : resE (2, v) = .inr sIS := rfl
theorem X_element (w : aW) (X : aX) (hS : ∀ d, d < 8 → WFs (X.2.2.2.2.1 d)) (x i : Int32) : Xp rvL M_X3_element [.ref 0, .int x, .int i] (putX w X) (resE (elemK x i X.2.2.2.2.1)) := by
  refine x_entry [some (.ref 0), some (.int x), some (.int i), none] (by decide +kernel) (Nat.le_of_ble_eq_true rfl) (fun _ => rfl) (fun K hM hK hE => ?_)
  obtain ⟨M, K'⟩ := K
  have hM : M = M_X3_element := hM
  subst hM
  have hR : gK.R (M_X3_element, K') = a_RX M_X3_element := hE.2.2.1
  have hf : 0 ≤ (gK.R (M_X3_element, K')).cells ∧ 0 ≤ (gK.R (M_X3_element, K')).slots := ⟨Nat.zero_le _, Nat.zero_le _⟩
  refine g_aload_n (pc := 0) hK dX3_element_0 rfl rfl ?_
  refine g_iload_n (pc := 1) hK dX3_element_1 rfl rfl ?_
  by_cases h1 : inR x 0 7 = true
  · obtain ⟨d, hd, rfl⟩ := in7 h1
    refine g_callV (pc := 2) (rv' := rvR) (c0 := 2) (S := []) hK hf rfl rfl ok_X3_shelfAt (by rw [hR]; exact ⟨Nat.le_of_ble_eq_true rfl, Nat.le_of_ble_eq_true rfl⟩) hv_X3_40 dX3_element_2 ⟨by decide, _, rfl⟩ (s_X3_shelfAt 0 _ _) (x_shelfAt w X hd) rfl rfl (Nat.le_of_ble_eq_true rfl) ?_
    refine g_astore_n (pc := 5) hK dX3_element_5 rfl (show 3 < 4 by decide) rfl ?_
    refine g_aload_n (pc := 6) hK dX3_element_6 rfl rfl ?_
    refine g_ifnonnull (pc := 7) (tgt := 21) hK dX3_element_7 (by decide) ?_
    refine g_aload_n (pc := 21) hK dX3_element_21 rfl rfl ?_
    refine g_callV (pc := 22) (rv' := rvI) (c0 := 1) (S := []) hK hf rfl rfl ok_X1_rowRefusal (by rw [hR]; exact ⟨Nat.le_of_ble_eq_true rfl, Nat.le_of_ble_eq_true rfl⟩) hv_X3_223 dX3_element_22 (S_isO w X hd) (s_X1_rowRefusal _ _) (S_rowRefusal w X hd) rfl rfl (Nat.le_of_ble_eq_true rfl) ?_
    by_cases h2 : rowR (X.2.2.2.2.1 d) = 0
    · refine g_if_eqT (pc := 25) (tgt := 39) hK dX3_element_25 (by decide) h2 ?_
      refine g_iload_n (pc := 39) hK dX3_element_39 rfl rfl ?_
      refine g_iconst (pc := 40) hK dX3_element_40 kc_0 ?_
      refine g_aload_n (pc := 41) hK dX3_element_41 rfl rfl ?_
      refine g_getI (pc := 42) hK dX3_element_42 hs_X3_59 (S_gI4 w X hd) ?_
      refine g_iconst (pc := 45) hK dX3_element_45 kc_1 ?_
      refine g_isub (pc := 46) hK dX3_element_46 ?_
      refine g_callS (pc := 47) (rv' := rvI) (av := [.int i, .int (0 : Int32), .int ((X.2.2.2.2.1 d).1 4 - 1)]) (S := []) hK hf ok_X3_within (by rw [hR]; exact ⟨Nat.le_of_ble_eq_true rfl, Nat.le_of_ble_eq_true rfl⟩) ht_X3_87 dX3_element_47 (s_X3_within _ _ _ _) (p_within _ _ _ _) rfl rfl (Nat.le_of_ble_eq_true rfl) ?_
      by_cases h3 : inR i 0 ((X.2.2.2.2.1 d).1 4 - 1) = true
      · have e : elemK (nI d) i X.2.2.2.2.1 = (0, ((X.2.2.2.2.1 d).2 (ix i)).toInt64) := by unfold elemK; rw [if_pos h1, ix7 hd, if_pos h2, if_pos h3]
        rw [e, resE_0] at hE
        rw [h3]
        refine g_if_neT (pc := 50) (tgt := 64) hK dX3_element_50 (by decide) (by decide) ?_
        refine g_aload_n (pc := 64) hK dX3_element_64 rfl rfl ?_
        refine g_iload_n (pc := 65) hK dX3_element_65 rfl rfl ?_
        refine g_callV (pc := 66) (rv' := rvI) (c0 := 1) (S := []) hK hf rfl rfl ok_X1_at (by rw [hR]; exact ⟨Nat.le_of_ble_eq_true rfl, Nat.le_of_ble_eq_true rfl⟩) hv_X3_66 dX3_element_66 (S_isO w X hd) (s_X1_at _ _ _) (S_at w X hd (hS d hd) i) rfl rfl (Nat.le_of_ble_eq_true rfl) ?_
        have e2 : atS (X.2.2.2.2.1 d) i = (X.2.2.2.2.1 d).2 (ix i) := by unfold atS; rw [if_pos h3]
        rw [e2]
        refine g_i2l (pc := 69) hK dX3_element_69 ?_
        exact x_lret (pc := 70) hK hE dX3_element_70 rfl
      · have e : elemK (nI d) i X.2.2.2.2.1 = (2, 0) := by unfold elemK; rw [if_pos h1, ix7 hd, if_pos h2, if_neg h3]
        rw [e, resE_2] at hE
        rw [Bool.eq_false_iff.mpr h3]
        refine g_if_neF (pc := 50) (tgt := 64) hK dX3_element_50 (by decide) (by decide) ?_
        exact x_throwSW (pc := 53) hK hE (by decide +kernel) xk_e2 xi_e2 hE.2.2.2.2.2.2.2.1.2.2.2.2.2 xw_e2 xg_e2 xo_e2 (Nat.le_of_ble_eq_true rfl) (Nat.le_of_ble_eq_true rfl) dX3_element_53 dX3_element_56 dX3_element_57 dX3_element_60 dX3_element_63
    · have e : elemK (nI d) i X.2.2.2.2.1 = (2, 0) := by unfold elemK; rw [if_pos h1, ix7 hd, if_neg h2]
      rw [e, resE_2] at hE
      refine g_if_eqF (pc := 25) (tgt := 39) hK dX3_element_25 (by decide) h2 ?_
      exact x_throwSW (pc := 28) hK hE (by decide +kernel) xk_e2 xi_e2 hE.2.2.2.2.2.2.2.1.2.2.2.2.1 xw_e2 xg_e2 xo_e2 (Nat.le_of_ble_eq_true rfl) (Nat.le_of_ble_eq_true rfl) dX3_element_28 dX3_element_31 dX3_element_32 dX3_element_35 dX3_element_38
  · have e : elemK x i X.2.2.2.2.1 = (1, 0) := by unfold elemK; rw [if_neg h1]
    rw [e, resE_1] at hE
    refine g_callV (pc := 2) (rv' := rvR) (c0 := 2) (S := []) hK hf rfl rfl ok_X3_shelfAt (by rw [hR]; exact ⟨Nat.le_of_ble_eq_true rfl, Nat.le_of_ble_eq_true rfl⟩) hv_X3_40 dX3_element_2 ⟨by decide, _, rfl⟩ (s_X3_shelfAt 0 _ _) (x_shelfNo w X (Bool.eq_false_iff.mpr h1)) rfl rfl (Nat.le_of_ble_eq_true rfl) ?_
    refine g_astore_nN (pc := 5) hK dX3_element_5 rfl (show 3 < 4 by decide) rfl ?_
    refine g_aload_nN (pc := 6) hK dX3_element_6 rfl rfl ?_
    refine g_ifnonnullN (pc := 7) hK dX3_element_7 ?_
    exact x_throwSW (pc := 10) hK hE (by decide +kernel) xk_e1 xi_e1 hE.2.2.2.2.2.2.2.1.2.2.2.1 xw_e1 xg_e1 xo_e1 (Nat.le_of_ble_eq_true rfl) (Nat.le_of_ble_eq_true rfl) dX3_element_10 dX3_element_13 dX3_element_14 dX3_element_17 dX3_element_20
