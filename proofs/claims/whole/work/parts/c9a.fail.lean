def M_X2_fail : aM := (yX2_fail, cX2_fail, 2, none, 6, 82)
theorem ok_X2_fail : a_okM M_X2_fail 2 := ⟨⟨by decide +kernel, by decide +kernel⟩, by decide +kernel, a_in 744 (by decide +kernel) rfl, a_in 82 (by decide +kernel) rfl⟩
theorem dX2_fail_0 : decode M_X2_fail.2.1 0 = .ok (.iload_n 1, 1) := by decide +kernel
theorem dX2_fail_1 : decode M_X2_fail.2.1 1 = .ok (.ifCond .ne 4, 3) := by decide +kernel
theorem dX2_fail_4 : decode M_X2_fail.2.1 4 = .ok (.return_, 1) := by decide +kernel
theorem dX2_fail_5 : decode M_X2_fail.2.1 5 = .ok (.iload_n 0, 1) := by decide +kernel
theorem dX2_fail_6 : decode M_X2_fail.2.1 6 = .ok (.tableswitch 76 0 7 #[46, 76, 56, 56, 76, 66, 56, 66], 46) := by decide +kernel
theorem dX2_fail_52 : decode M_X2_fail.2.1 52 = .ok (.new 9, 3) := by decide +kernel
theorem dX2_fail_55 : decode M_X2_fail.2.1 55 = .ok (.dup, 1) := by decide +kernel
theorem dX2_fail_56 : decode M_X2_fail.2.1 56 = .ok (.ldc 11, 2) := by decide +kernel
theorem dX2_fail_58 : decode M_X2_fail.2.1 58 = .ok (.invokespecial 13, 3) := by decide +kernel
theorem dX2_fail_61 : decode M_X2_fail.2.1 61 = .ok (.athrow, 1) := by decide +kernel
theorem dX2_fail_62 : decode M_X2_fail.2.1 62 = .ok (.new 16, 3) := by decide +kernel
theorem dX2_fail_65 : decode M_X2_fail.2.1 65 = .ok (.dup, 1) := by decide +kernel
theorem dX2_fail_66 : decode M_X2_fail.2.1 66 = .ok (.ldc 18, 2) := by decide +kernel
theorem dX2_fail_68 : decode M_X2_fail.2.1 68 = .ok (.invokespecial 20, 3) := by decide +kernel
theorem dX2_fail_71 : decode M_X2_fail.2.1 71 = .ok (.athrow, 1) := by decide +kernel
theorem dX2_fail_72 : decode M_X2_fail.2.1 72 = .ok (.new 21, 3) := by decide +kernel
theorem dX2_fail_75 : decode M_X2_fail.2.1 75 = .ok (.dup, 1) := by decide +kernel
theorem dX2_fail_76 : decode M_X2_fail.2.1 76 = .ok (.ldc 23, 2) := by decide +kernel
theorem dX2_fail_78 : decode M_X2_fail.2.1 78 = .ok (.invokespecial 25, 3) := by decide +kernel
theorem dX2_fail_81 : decode M_X2_fail.2.1 81 = .ok (.athrow, 1) := by decide +kernel
theorem dX2_fail_82 : decode M_X2_fail.2.1 82 = .ok (.return_, 1) := by decide +kernel
theorem xk_f1 : Cond.classLink RX2 9 sIA ∈ a_T := a_in 745 (by decide +kernel) rfl
theorem xi_f1 : Cond.initialized sIA ∈ a_T := a_in 88 (by decide +kernel) rfl
theorem xw_f1 : ∀ w ∈ vx_atS RX2 13 sIA sNm, w ∈ lw_tbl := by decide +kernel
theorem xg_f1 : (vx_atS RX2 13 sIA sNm).all (fun w => goodWord w || a_isX w) = true := by decide +kernel
theorem xo_f1 : ∀ w ∈ Cond.classLink RX2 9 sIA :: Cond.initialized sIA :: vx_atS RX2 13 sIA sNm, vx_ot w = true := by decide +kernel
theorem xk_f2 : Cond.classLink RX2 16 sIS ∈ a_T := a_in 813 (by decide +kernel) rfl
theorem xi_f2 : Cond.initialized sIS ∈ a_T := a_in 89 (by decide +kernel) rfl
theorem xw_f2 : ∀ w ∈ vx_atS RX2 20 sIS sNm, w ∈ lw_tbl := by decide +kernel
theorem xg_f2 : (vx_atS RX2 20 sIS sNm).all (fun w => goodWord w || a_isX w) = true := by decide +kernel
theorem xo_f2 : ∀ w ∈ Cond.classLink RX2 16 sIS :: Cond.initialized sIS :: vx_atS RX2 20 sIS sNm, vx_ot w = true := by decide +kernel
theorem xk_f3 : Cond.classLink RX2 21 sUO ∈ a_T := a_in 829 (by decide +kernel) rfl
theorem xi_f3 : Cond.initialized sUO ∈ a_T := a_in 90 (by decide +kernel) rfl
theorem xw_f3 : ∀ w ∈ vx_atS RX2 25 sUO sNm, w ∈ lw_tbl := by decide +kernel
theorem xg_f3 : (vx_atS RX2 25 sUO sNm).all (fun w => goodWord w || a_isX w) = true := by decide +kernel
theorem xo_f3 : ∀ w ∈ Cond.classLink RX2 21 sUO :: Cond.initialized sUO :: vx_atS RX2 25 sUO sNm, vx_ot w = true := by decide +kernel
def failU (s k : Int32) : Unit ⊕ String := if k = 0 then .inl () else if s = 0 then .inr sIA else if s = 1 ∨ s = 4 then .inl () else if s = 5 ∨ s = 7 then .inr sUO else .inr sIS
theorem X_fail {i : Nat} (hi : i ≤ 7) (k : Int32) (w : aW) : Xp rvV M_X2_fail [.int (nI i), .int k] w (failU (nI i) k) := by
  refine x_entry [some (.int (nI i)), some (.int k)] (by decide +kernel) (Nat.le_of_ble_eq_true rfl) (fun _ => rfl) (fun K hM hK hE => ?_)
  obtain ⟨M, K'⟩ := K
  have hM : M = M_X2_fail := hM
  subst hM
  refine g_iload_n (pc := 0) hK dX2_fail_0 rfl rfl ?_
  by_cases hk : k = 0
  · have e : failU (nI i) k = .inl () := by unfold failU; rw [if_pos hk]
    rw [e] at hE
    refine g_if_neF (pc := 1) (tgt := 5) hK dX2_fail_1 (by decide) (fun h => h hk) ?_
    exact x_vret (pc := 4) hK hE dX2_fail_4 rfl
  · refine g_if_neT (pc := 1) (tgt := 5) hK dX2_fail_1 (by decide) hk ?_
    refine g_iload_n (pc := 5) hK dX2_fail_5 rfl rfl ?_
    rcases (show i = 0 ∨ i = 1 ∨ i = 2 ∨ i = 3 ∨ i = 4 ∨ i = 5 ∨ i = 6 ∨ i = 7 by omega) with rfl | rfl | rfl | rfl | rfl | rfl | rfl | rfl
    · have e : failU (nI 0) k = .inr sIA := by unfold failU; rw [if_neg hk, if_pos (by decide)]
      rw [e] at hE
      refine g_tableIn (pc := 6) (off := 46) (tgt := 52) hK dX2_fail_6 (by decide) (by decide) (by decide) (by decide) ?_
      exact x_throwS (pc := 52) hK hE (by decide +kernel) xk_f1 xi_f1 hE.2.2.2.2.2.2.2.1.1 xw_f1 xg_f1 xo_f1 (Nat.le_of_ble_eq_true rfl) (Nat.le_of_ble_eq_true rfl) dX2_fail_52 dX2_fail_55 dX2_fail_56 dX2_fail_58 dX2_fail_61
    · have e : failU (nI 1) k = .inl () := by unfold failU; rw [if_neg hk, if_neg (by decide), if_pos (by decide)]
      rw [e] at hE
      refine g_tableIn (pc := 6) (off := 76) (tgt := 82) hK dX2_fail_6 (by decide) (by decide) (by decide) (by decide) ?_
      exact x_vret (pc := 82) hK hE dX2_fail_82 rfl
    · have e : failU (nI 2) k = .inr sIS := by unfold failU; rw [if_neg hk, if_neg (by decide), if_neg (by decide), if_neg (by decide)]
      rw [e] at hE
      refine g_tableIn (pc := 6) (off := 56) (tgt := 62) hK dX2_fail_6 (by decide) (by decide) (by decide) (by decide) ?_
      exact x_throwS (pc := 62) hK hE (by decide +kernel) xk_f2 xi_f2 hE.2.2.2.2.2.2.2.1.2.1 xw_f2 xg_f2 xo_f2 (Nat.le_of_ble_eq_true rfl) (Nat.le_of_ble_eq_true rfl) dX2_fail_62 dX2_fail_65 dX2_fail_66 dX2_fail_68 dX2_fail_71
    · have e : failU (nI 3) k = .inr sIS := by unfold failU; rw [if_neg hk, if_neg (by decide), if_neg (by decide), if_neg (by decide)]
      rw [e] at hE
      refine g_tableIn (pc := 6) (off := 56) (tgt := 62) hK dX2_fail_6 (by decide) (by decide) (by decide) (by decide) ?_
      exact x_throwS (pc := 62) hK hE (by decide +kernel) xk_f2 xi_f2 hE.2.2.2.2.2.2.2.1.2.1 xw_f2 xg_f2 xo_f2 (Nat.le_of_ble_eq_true rfl) (Nat.le_of_ble_eq_true rfl) dX2_fail_62 dX2_fail_65 dX2_fail_66 dX2_fail_68 dX2_fail_71
    · have e : failU (nI 4) k = .inl () := by unfold failU; rw [if_neg hk, if_neg (by decide), if_pos (by decide)]
      rw [e] at hE
      refine g_tableIn (pc := 6) (off := 76) (tgt := 82) hK dX2_fail_6 (by decide) (by decide) (by decide) (by decide) ?_
      exact x_vret (pc := 82) hK hE dX2_fail_82 rfl
    · have e : failU (nI 5) k = .inr sUO := by unfold failU; rw [if_neg hk, if_neg (by decide), if_neg (by decide), if_pos (by decide)]
      rw [e] at hE
      refine g_tableIn (pc := 6) (off := 66) (tgt := 72) hK dX2_fail_6 (by decide) (by decide) (by decide) (by decide) ?_
      exact x_throwS (pc := 72) hK hE (by decide +kernel) xk_f3 xi_f3 hE.2.2.2.2.2.2.2.1.2.2.1 xw_f3 xg_f3 xo_f3 (Nat.le_of_ble_eq_true rfl) (Nat.le_of_ble_eq_true rfl) dX2_fail_72 dX2_fail_75 dX2_fail_76 dX2_fail_78 dX2_fail_81
    · have e : failU (nI 6) k = .inr sIS := by unfold failU; rw [if_neg hk, if_neg (by decide), if_neg (by decide), if_neg (by decide)]
      rw [e] at hE
      refine g_tableIn (pc := 6) (off := 56) (tgt := 62) hK dX2_fail_6 (by decide) (by decide) (by decide) (by decide) ?_
      exact x_throwS (pc := 62) hK hE (by decide +kernel) xk_f2 xi_f2 hE.2.2.2.2.2.2.2.1.2.1 xw_f2 xg_f2 xo_f2 (Nat.le_of_ble_eq_true rfl) (Nat.le_of_ble_eq_true rfl) dX2_fail_62 dX2_fail_65 dX2_fail_66 dX2_fail_68 dX2_fail_71
    · have e : failU (nI 7) k = .inr sUO := by unfold failU; rw [if_neg hk, if_neg (by decide), if_neg (by decide), if_pos (by decide)]
      rw [e] at hE
      refine g_tableIn (pc := 6) (off := 66) (tgt := 72) hK dX2_fail_6 (by decide) (by decide) (by decide) (by decide) ?_
      exact x_throwS (pc := 72) hK hE (by decide +kernel) xk_f3 xi_f3 hE.2.2.2.2.2.2.2.1.2.2.1 xw_f3 xg_f3 xo_f3 (Nat.le_of_ble_eq_true rfl) (Nat.le_of_ble_eq_true rfl) dX2_fail_72 dX2_fail_75 dX2_fail_76 dX2_fail_78 dX2_fail_81
