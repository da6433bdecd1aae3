def M_X3_init : aM := (yX3_init, cX3_init, 2, none, 2, 40)
theorem ok_X3_init : a_okM M_X3_init 0 := ⟨⟨by decide +kernel, by decide +kernel⟩, by decide +kernel, a_in 95 (by decide +kernel) rfl, a_in 76 (by decide +kernel) rfl⟩
theorem dX3_init_0 : decode M_X3_init.2.1 0 = .ok (.aload_n 0, 1) := by decide +kernel
theorem dX3_init_1 : decode M_X3_init.2.1 1 = .ok (.invokespecial 1, 3) := by decide +kernel
theorem dX3_init_4 : decode M_X3_init.2.1 4 = .ok (.aload_n 0, 1) := by decide +kernel
theorem dX3_init_5 : decode M_X3_init.2.1 5 = .ok (.new 7, 3) := by decide +kernel
theorem dX3_init_8 : decode M_X3_init.2.1 8 = .ok (.dup, 1) := by decide +kernel
theorem dX3_init_9 : decode M_X3_init.2.1 9 = .ok (.invokespecial 9, 3) := by decide +kernel
theorem dX3_init_12 : decode M_X3_init.2.1 12 = .ok (.putfield 10, 3) := by decide +kernel
theorem dX3_init_15 : decode M_X3_init.2.1 15 = .ok (.aload_n 0, 1) := by decide +kernel
theorem dX3_init_16 : decode M_X3_init.2.1 16 = .ok (.new 7, 3) := by decide +kernel
theorem dX3_init_19 : decode M_X3_init.2.1 19 = .ok (.dup, 1) := by decide +kernel
theorem dX3_init_20 : decode M_X3_init.2.1 20 = .ok (.invokespecial 9, 3) := by decide +kernel
theorem dX3_init_23 : decode M_X3_init.2.1 23 = .ok (.putfield 16, 3) := by decide +kernel
theorem dX3_init_26 : decode M_X3_init.2.1 26 = .ok (.aload_n 0, 1) := by decide +kernel
theorem dX3_init_27 : decode M_X3_init.2.1 27 = .ok (.new 7, 3) := by decide +kernel
theorem dX3_init_30 : decode M_X3_init.2.1 30 = .ok (.dup, 1) := by decide +kernel
theorem dX3_init_31 : decode M_X3_init.2.1 31 = .ok (.invokespecial 9, 3) := by decide +kernel
theorem dX3_init_34 : decode M_X3_init.2.1 34 = .ok (.putfield 19, 3) := by decide +kernel
theorem dX3_init_37 : decode M_X3_init.2.1 37 = .ok (.aload_n 0, 1) := by decide +kernel
theorem dX3_init_38 : decode M_X3_init.2.1 38 = .ok (.iconst 0, 1) := by decide +kernel
theorem dX3_init_39 : decode M_X3_init.2.1 39 = .ok (.putfield 22, 3) := by decide +kernel
theorem dX3_init_42 : decode M_X3_init.2.1 42 = .ok (.aload_n 0, 1) := by decide +kernel
theorem dX3_init_43 : decode M_X3_init.2.1 43 = .ok (.bipush 8, 2) := by decide +kernel
theorem dX3_init_45 : decode M_X3_init.2.1 45 = .ok (.anewarray 26, 3) := by decide +kernel
theorem dX3_init_48 : decode M_X3_init.2.1 48 = .ok (.putfield 28, 3) := by decide +kernel
theorem dX3_init_51 : decode M_X3_init.2.1 51 = .ok (.aload_n 0, 1) := by decide +kernel
theorem dX3_init_52 : decode M_X3_init.2.1 52 = .ok (.iconst 4, 1) := by decide +kernel
theorem dX3_init_53 : decode M_X3_init.2.1 53 = .ok (.newarray .int, 2) := by decide +kernel
theorem dX3_init_55 : decode M_X3_init.2.1 55 = .ok (.putfield 32, 3) := by decide +kernel
theorem dX3_init_58 : decode M_X3_init.2.1 58 = .ok (.aload_n 0, 1) := by decide +kernel
theorem dX3_init_59 : decode M_X3_init.2.1 59 = .ok (.iconst 4, 1) := by decide +kernel
theorem dX3_init_60 : decode M_X3_init.2.1 60 = .ok (.newarray .int, 2) := by decide +kernel
theorem dX3_init_62 : decode M_X3_init.2.1 62 = .ok (.putfield 36, 3) := by decide +kernel
theorem dX3_init_65 : decode M_X3_init.2.1 65 = .ok (.iconst 0, 1) := by decide +kernel
theorem dX3_init_66 : decode M_X3_init.2.1 66 = .ok (.istore_n 1, 1) := by decide +kernel
theorem dX3_init_67 : decode M_X3_init.2.1 67 = .ok (.iload_n 1, 1) := by decide +kernel
theorem dX3_init_68 : decode M_X3_init.2.1 68 = .ok (.bipush 8, 2) := by decide +kernel
theorem dX3_init_70 : decode M_X3_init.2.1 70 = .ok (.if_icmp .ge 22, 3) := by decide +kernel
theorem dX3_init_73 : decode M_X3_init.2.1 73 = .ok (.aload_n 0, 1) := by decide +kernel
theorem dX3_init_74 : decode M_X3_init.2.1 74 = .ok (.getfield 28, 3) := by decide +kernel
theorem dX3_init_77 : decode M_X3_init.2.1 77 = .ok (.iload_n 1, 1) := by decide +kernel
theorem dX3_init_78 : decode M_X3_init.2.1 78 = .ok (.new 26, 3) := by decide +kernel
theorem dX3_init_81 : decode M_X3_init.2.1 81 = .ok (.dup, 1) := by decide +kernel
theorem dX3_init_82 : decode M_X3_init.2.1 82 = .ok (.invokespecial 39, 3) := by decide +kernel
theorem dX3_init_85 : decode M_X3_init.2.1 85 = .ok (.aastore, 1) := by decide +kernel
theorem dX3_init_86 : decode M_X3_init.2.1 86 = .ok (.iinc 1 1, 3) := by decide +kernel
theorem dX3_init_89 : decode M_X3_init.2.1 89 = .ok (.goto (-22), 3) := by decide +kernel
theorem dX3_init_92 : decode M_X3_init.2.1 92 = .ok (.return_, 1) := by decide +kernel
theorem xo_X3 : Cond.methodLink RX3 1 objectInit ∈ a_T := a_in 96 (by decide +kernel) rfl
theorem xnk_X0 : Cond.classLink RX3 7 RX0 ∈ a_T := a_in 99 (by decide +kernel) rfl
theorem xni_X0 : Cond.instantiable RX0 13 ∈ a_T := a_in 100 (by decide +kernel) rfl
theorem xnz_X0 : Cond.initialized RX0 ∈ a_T := a_in 77 (by decide +kernel) rfl
theorem xnl_X0 : Cond.methodLink RX3 9 M_X0_init.1 ∈ a_T := a_in 101 (by decide +kernel) rfl
theorem xnm_X0 : Cond.instanceMethod M_X0_init.1 ∈ a_T := a_in 102 (by decide +kernel) rfl
theorem xnk_X1 : Cond.classLink RX3 26 RX1 ∈ a_T := a_in 158 (by decide +kernel) rfl
theorem xni_X1 : Cond.instantiable RX1 6 ∈ a_T := a_in 160 (by decide +kernel) rfl
theorem xnz_X1 : Cond.initialized RX1 ∈ a_T := a_in 78 (by decide +kernel) rfl
theorem xnl_X1 : ∃ host, Cond.methodLinkNest RX3 39 M_X1_init.1 host ∈ a_Ns := ⟨"WhoeverNamesIt", a_inN 161 (by decide +kernel) rfl⟩
theorem xnm_X1 : Cond.instanceMethod M_X1_init.1 ∈ a_T := a_in 162 (by decide +kernel) rfl
theorem hF_X3_10 : a_fF RX3 10 2 0 (.object "WhoeverNamesIt$Mountain") := ⟨RX3, TX3, 7, tyX3, rfl, tin_X3, by decide, a_in 190 (by decide +kernel) rfl, tyX3_ok, nmX3, rfl, by decide +kernel, rfl⟩
theorem hF_X3_16 : a_fF RX3 16 2 1 (.object "WhoeverNamesIt$Mountain") := ⟨RX3, TX3, 7, tyX3, rfl, tin_X3, by decide, a_in 191 (by decide +kernel) rfl, tyX3_ok, nmX3, rfl, by decide +kernel, rfl⟩
theorem hF_X3_19 : a_fF RX3 19 2 2 (.object "WhoeverNamesIt$Mountain") := ⟨RX3, TX3, 7, tyX3, rfl, tin_X3, by decide, a_in 192 (by decide +kernel) rfl, tyX3_ok, nmX3, rfl, by decide +kernel, rfl⟩
theorem hP_X3_22 : a_fw RX3 22 2 3 (.boolean) := ⟨RX3, TX3, 7, tyX3, rfl, tin_X3, by decide, a_in 193 (by decide +kernel) rfl, tyX3_ok, nmX3, rfl, by decide +kernel⟩
theorem hF_X3_28 : a_fF RX3 28 2 4 (.array (.object "WhoeverNamesIt$Shelf")) := ⟨RX3, TX3, 7, tyX3, rfl, tin_X3, by decide, a_in 194 (by decide +kernel) rfl, tyX3_ok, nmX3, rfl, by decide +kernel, rfl⟩
theorem hF_X3_32 : a_fF RX3 32 2 5 (.array .int) := ⟨RX3, TX3, 7, tyX3, rfl, tin_X3, by decide, a_in 195 (by decide +kernel) rfl, tyX3_ok, nmX3, rfl, by decide +kernel, rfl⟩
theorem hF_X3_36 : a_fF RX3 36 2 6 (.array .int) := ⟨RX3, TX3, 7, tyX3, rfl, tin_X3, by decide, a_in 196 (by decide +kernel) rfl, tyX3_ok, nmX3, rfl, by decide +kernel, rfl⟩
theorem hg_X3_28 : a_fs RX3 28 2 4 := ⟨RX3, TX3, 7, rfl, tin_X3, by decide, a_in 194 (by decide +kernel) rfl⟩
def zX3 : List Value := [.null, .null, .null, .int 0, .null, .null, .null]
def mnt (ca : Nat → Nat) (h : Nat) (q : Nat → Nat) : va_W := wsX0 ca h q (fun j => if j < 9 then g4 j else 0) (fun j => if j < 5 then g40 j else 0) (fun j => if j < 5 then g3 j else 0)
def shl (s : Nat → Nat) : Nat → Nat → Option Nat
  | 0 => fun _ => none
  | n + 1 => va_up (shl s n) (nI n).toNatClampNeg (some (s n))
def prs (ca : Nat → Nat) (s e : Nat → Nat) : Nat → va_W
  | 0 => []
  | n + 1 => prs ca s e n ++ [(s n, .inr (1, [.int 0, .int 0, .int 0, .int 0, .int 0, .ref (e n)])), (e n, .inl (ca 0, 100, .inl (fun _ => 0)))]
def wsX3 (ca : Nat → Nat) (h0 a0 a1 a2 : Nat) (m0 m1 m2 : Nat → Nat) (qs qo qt : Nat) (s e : Nat → Nat) (n : Nat) : va_W := (h0, .inr (2, [.ref a0, .ref a1, .ref a2, .int 0, .ref qs, .ref qo, .ref qt])) :: ((((mnt ca a0 m0 ++ mnt ca a1 m1) ++ mnt ca a2 m2) ++ [(qs, .inl (ca 2, 8, .inr (.inr (.inr (.inr (shl s n))))))] ++ [(qo, .inl (ca 0, 4, .inl (fun _ => 0)))] ++ [(qt, .inl (ca 0, 4, .inl (fun _ => 0)))]) ++ prs ca s e n)
theorem prs_up (ca : Nat → Nat) (s e : Nat → Nat) (x y n : Nat) : ∀ k, k ≤ n → prs ca (fun i => if i = n then x else s i) (fun i => if i = n then y else e i) k = prs ca s e k := by
  intro k
  induction k with
  | zero => intro _; rfl
  | succ k ih =>
    intro hk
    have e1 : (if k = n then x else s k) = s k := if_neg (by omega)
    have e2 : (if k = n then y else e k) = e k := if_neg (by omega)
    show prs ca _ _ k ++ [((if k = n then x else s k), .inr (1, [.int 0, .int 0, .int 0, .int 0, .int 0, .ref (if k = n then y else e k)])), ((if k = n then y else e k), .inl (ca 0, 100, .inl (fun _ => 0)))] = prs ca s e k ++ _
    rw [ih (by omega), e1, e2]
theorem shl_up (s : Nat → Nat) (x n : Nat) : ∀ k, k ≤ n → shl (fun i => if i = n then x else s i) k = shl s k := by
  intro k
  induction k with
  | zero => intro _; rfl
  | succ k ih =>
    intro hk
    have e1 : (if k = n then x else s k) = s k := if_neg (by omega)
    show va_up _ _ (some (if k = n then x else s k)) = va_up _ _ _
    rw [ih (by omega), e1]
theorem prs_len (ca : Nat → Nat) (s e : Nat → Nat) : ∀ n, (prs ca s e n).length = 2 * n := by
  intro n
  induction n with
  | zero => rfl
  | succ n ih =>
    show (prs ca s e n ++ _).length = _
    rw [List.length_append, ih]
    show 2 * n + 2 = _
    omega

theorem ws3_len (ca : Nat → Nat) (h0 a0 a1 a2 : Nat) (m0 m1 m2 : Nat → Nat) (qs qo qt : Nat) (s e : Nat → Nat) (n : Nat) : (wsX3 ca h0 a0 a1 a2 m0 m1 m2 qs qo qt s e n).length = 34 + 2 * n := by
  unfold wsX3
  rw [List.length_cons, List.length_append, prs_len]
  show 33 + 2 * n + 1 = 34 + 2 * n
  omega
theorem ws3_set (ca : Nat → Nat) (h0 a0 a1 a2 : Nat) (m0 m1 m2 : Nat → Nat) (qs qo qt : Nat) (s e : Nat → Nat) (i x y : Nat) : ((wsX3 ca h0 a0 a1 a2 m0 m1 m2 qs qo qt s e i) ++ ([(x, .inr (1, [.int 0, .int 0, .int 0, .int 0, .int 0, .ref y])), (y, .inl (ca 0, 100, .inl (fun _ => 0)))] : va_W)).set 31 ((qs, .inl (ca 2, 8, .inr (.inr (.inr (.inr (va_up (shl s i) (nI i).toNatClampNeg (some x))))))) : Nat × va_E) = wsX3 ca h0 a0 a1 a2 m0 m1 m2 qs qo qt (fun j => if j = i then x else s j) (fun j => if j = i then y else e j) (i + 1) := by
  have h1 : shl (fun j => if j = i then x else s j) (i + 1) = va_up (shl s i) (nI i).toNatClampNeg (some x) := by
    have e1 : (if i = i then x else s i) = x := if_pos rfl
    show va_up _ _ (some (if i = i then x else s i)) = _
    rw [shl_up s x i i (Nat.le_refl i), e1]
  have h2 : prs ca (fun j => if j = i then x else s j) (fun j => if j = i then y else e j) (i + 1) = prs ca s e i ++ [(x, .inr (1, [.int 0, .int 0, .int 0, .int 0, .int 0, .ref y])), (y, .inl (ca 0, 100, .inl (fun _ => 0)))] := by
    have e1 : (if i = i then x else s i) = x := if_pos rfl
    have e2 : (if i = i then y else e i) = y := if_pos rfl
    show prs ca _ _ i ++ [((if i = i then x else s i), .inr (1, [.int 0, .int 0, .int 0, .int 0, .int 0, .ref (if i = i then y else e i)])), ((if i = i then y else e i), .inl (ca 0, 100, .inl (fun _ => 0)))] = _
    rw [prs_up ca s e x y i i (Nat.le_refl i), e1, e2]
  unfold wsX3
  rw [h1, h2]
  rfl
theorem lp_X3 {K : gK} (hM : K.M = M_X3_init) (hK : K.Ok) (hAO : va_AO "WhoeverNamesIt$Shelf" K.s) (hR : K.R = kR M_X3_init 49 1098) {h0 a0 a1 a2 qs qo qt : Nat} {m0 m1 m2 : Nat → Nat} (next : ∀ s e : Nat → Nat, Hw K 49 1098 92 [(1, .int (nI 8)), (0, .ref h0)] [] (wsX3 K.ca h0 a0 a1 a2 m0 m1 m2 qs qo qt s e 8)) : ∀ (n i : Nat) (s e : Nat → Nat), i + n = 8 → Hw K (33 + 2 * i) (250 + 106 * i) 67 [(1, .int (nI i)), (0, .ref h0)] [] (wsX3 K.ca h0 a0 a1 a2 m0 m1 m2 qs qo qt s e i) := by
  obtain ⟨M, K'⟩ := K
  have hM : M = M_X3_init := hM
  subst hM
  have hz1 : ∀ j, j < 6 → defaultValue (tyX1 j) = vp_V zS j := fun j hj => by
    rcases (show j = 0 ∨ j = 1 ∨ j = 2 ∨ j = 3 ∨ j = 4 ∨ j = 5 by omega) with rfl | rfl | rfl | rfl | rfl | rfl <;> rfl
  have hRc : (gK.R (M_X3_init, K')).cells = 49 := by rw [hR]; rfl
  have hRs : (gK.R (M_X3_init, K')).slots = 1098 := by rw [hR]; rfl
  intro n
  induction n with
  | zero =>
    intro i s e hi
    obtain rfl : i = 8 := by omega
    refine h_iload (pc := 67) hK dX3_init_67 rfl List.mem_cons_self ?_
    refine h_bipush (pc := 68) hK dX3_init_68 (show _ = (8 : Int32) by decide) ?_
    exact h_geT (pc := 70) (tgt := 92) hK dX3_init_70 (by decide) (by decide) (next s e)
  | succ n ih =>
    intro i s e hi
    refine h_iload (pc := 67) hK dX3_init_67 rfl List.mem_cons_self ?_
    refine h_bipush (pc := 68) hK dX3_init_68 (show _ = (8 : Int32) by decide) ?_
    refine h_geF (pc := 70) (tgt := 92) hK dX3_init_70 (by decide) (show ¬ nI 8 ≤ nI i from nI_ge (by omega) (by decide)) ?_
    refine h_aload (pc := 73) hK dX3_init_73 rfl (List.mem_cons_of_mem _ List.mem_cons_self) ?_
    refine h_getR (pc := 74) (q0 := 0) (k := 4) (v := .ref qs) hK dX3_init_74 hg_X3_28 rfl rfl ?_
    refine h_iload (pc := 77) hK dX3_init_77 rfl List.mem_cons_self ?_
    refine h_new (pc := 78) (ci := 1) (fs := zS) hK rfl tin_X1 tyX1 tyX1_ok xnk_X1 xni_X1 xnz_X1 hz1 (by omega) (by omega) dX3_init_78 (fun x => ?_)
    refine h_dup (pc := 81) hK dX3_init_81 rfl ?_
    refine h_callKN (pc := 82) hK hAO ⟨by omega, by omega⟩ ok_X1_init rfl rfl (by rw [hR]; exact ⟨Nat.le_of_ble_eq_true rfl, Nat.le_of_ble_eq_true rfl⟩) xnl_X1 xnm_X1 dX3_init_82 K_X1 (Nat.le_of_ble_eq_true rfl) (fun w hw => ?_)
    obtain ⟨y, rfl⟩ := hw
    refine h_aast (pc := 85) (q0 := 31) (qk := 34 + 2 * i) (ci := 1) (f := shl s i) hK dX3_init_85 rfl rfl (by
      rw [List.getElem?_append_right (by rw [ws3_len]; exact Nat.le_refl _), ws3_len, Nat.sub_self]
      rfl) rfl (vp_in_nI (show i < 8 by omega) (by decide)) ?_
    refine h_ws (ws3_set _ h0 a0 a1 a2 m0 m1 m2 qs qo qt s e i x y) ?_
    refine h_iinc1 (pc := 86) hK dX3_init_86 (show 1 < 2 by decide) (nI_1 i) ?_
    refine h_goto (pc := 89) (tgt := 67) hK dX3_init_89 (by decide) ?_
    have hgo := ih (i + 1) (fun j => if j = i then x else s j) (fun j => if j = i then y else e j) (by omega)
    rw [show 33 + 2 * (i + 1) = 33 + 2 * i + 1 + 1 by omega, show 250 + 106 * (i + 1) = 250 + 106 * i + 6 + 100 by omega] at hgo
    exact hgo

def postX3 (ca : Nat → Nat) (h0 : Nat) (ws : va_W) : Prop := ∃ (a0 a1 a2 : Nat) (m0 m1 m2 : Nat → Nat) (qs qo qt : Nat) (s e : Nat → Nat), ws = wsX3 ca h0 a0 a1 a2 m0 m1 m2 qs qo qt s e 8
theorem K_X3 : Kp M_X3_init 2 zX3 49 1098 postX3 := by
  refine k_entry (by decide +kernel) rfl (Nat.le_of_ble_eq_true rfl) (fun K h0 hM hK hE => ?_)
  obtain ⟨M, K'⟩ := K
  have hM : M = M_X3_init := hM
  subst hM
  have hR : gK.R (M_X3_init, K') = kR M_X3_init 49 1098 := hE.2.2.1
  have hz0 : ∀ j, j < 13 → defaultValue (tyX0 j) = vp_V zX0 j := fun j hj => by
    rcases (show j = 0 ∨ j = 1 ∨ j = 2 ∨ j = 3 ∨ j = 4 ∨ j = 5 ∨ j = 6 ∨ j = 7 ∨ j = 8 ∨ j = 9 ∨ j = 10 ∨ j = 11 ∨ j = 12 by omega) with rfl | rfl | rfl | rfl | rfl | rfl | rfl | rfl | rfl | rfl | rfl | rfl | rfl <;> rfl
  refine h_aload (pc := 0) hK dX3_init_0 rfl List.mem_cons_self ?_
  refine h_objInit (pc := 1) hK xo_X3 xoI xoC dX3_init_1 (by rw [hR]; exact Nat.le_of_ble_eq_true rfl) (by rw [hR]; exact Nat.le_of_ble_eq_true rfl) ?_
  unfold zX3
  refine h_aload (pc := 4) hK dX3_init_4 rfl List.mem_cons_self ?_
  refine h_new (pc := 5) (ci := 0) (fs := zX0) hK rfl tin_X0 tyX0 tyX0_ok xnk_X0 xni_X0 xnz_X0 hz0 (by rw [hR]; exact Nat.le_of_ble_eq_true rfl) (by rw [hR]; exact Nat.le_of_ble_eq_true rfl) dX3_init_5 (fun a0 => ?_)
  refine h_dup (pc := 8) hK dX3_init_8 rfl ?_
  refine h_callK (pc := 9) hK hE.2.2.2.2 (by rw [hR]; exact ⟨Nat.le_of_ble_eq_true rfl, Nat.le_of_ble_eq_true rfl⟩) ok_X0_init rfl rfl (by rw [hR]; exact ⟨Nat.le_of_ble_eq_true rfl, Nat.le_of_ble_eq_true rfl⟩) xnl_X0 xnm_X0 dX3_init_9 K_X0 (Nat.le_of_ble_eq_true rfl) (fun w0 hw0 => ?_)
  obtain ⟨m0, rfl⟩ := hw0
  refine h_putF (pc := 12) (q0 := 0) hK hE.2.2.2.1 dX3_init_12 hF_X3_10 rfl rfl rfl (Nat.le_of_ble_eq_true rfl) ?_
  refine h_ws (ws' := (h0, .inr (2, [.ref a0, .null, .null, .int 0, .null, .null, .null])) :: (mnt (gK.ca (M_X3_init, K')) a0 m0)) rfl ?_
  refine h_aload (pc := 15) hK dX3_init_15 rfl List.mem_cons_self ?_
  refine h_new (pc := 16) (ci := 0) (fs := zX0) hK rfl tin_X0 tyX0 tyX0_ok xnk_X0 xni_X0 xnz_X0 hz0 (by rw [hR]; exact Nat.le_of_ble_eq_true rfl) (by rw [hR]; exact Nat.le_of_ble_eq_true rfl) dX3_init_16 (fun a1 => ?_)
  refine h_dup (pc := 19) hK dX3_init_19 rfl ?_
  refine h_callK (pc := 20) hK hE.2.2.2.2 (by rw [hR]; exact ⟨Nat.le_of_ble_eq_true rfl, Nat.le_of_ble_eq_true rfl⟩) ok_X0_init rfl rfl (by rw [hR]; exact ⟨Nat.le_of_ble_eq_true rfl, Nat.le_of_ble_eq_true rfl⟩) xnl_X0 xnm_X0 dX3_init_20 K_X0 (Nat.le_of_ble_eq_true rfl) (fun w1 hw1 => ?_)
  obtain ⟨m1, rfl⟩ := hw1
  refine h_putF (pc := 23) (q0 := 0) hK hE.2.2.2.1 dX3_init_23 hF_X3_16 rfl rfl rfl (Nat.le_of_ble_eq_true rfl) ?_
  refine h_ws (ws' := (h0, .inr (2, [.ref a0, .ref a1, .null, .int 0, .null, .null, .null])) :: (mnt (gK.ca (M_X3_init, K')) a0 m0 ++ mnt (gK.ca (M_X3_init, K')) a1 m1)) rfl ?_
  refine h_aload (pc := 26) hK dX3_init_26 rfl List.mem_cons_self ?_
  refine h_new (pc := 27) (ci := 0) (fs := zX0) hK rfl tin_X0 tyX0 tyX0_ok xnk_X0 xni_X0 xnz_X0 hz0 (by rw [hR]; exact Nat.le_of_ble_eq_true rfl) (by rw [hR]; exact Nat.le_of_ble_eq_true rfl) dX3_init_27 (fun a2 => ?_)
  refine h_dup (pc := 30) hK dX3_init_30 rfl ?_
  refine h_callK (pc := 31) hK hE.2.2.2.2 (by rw [hR]; exact ⟨Nat.le_of_ble_eq_true rfl, Nat.le_of_ble_eq_true rfl⟩) ok_X0_init rfl rfl (by rw [hR]; exact ⟨Nat.le_of_ble_eq_true rfl, Nat.le_of_ble_eq_true rfl⟩) xnl_X0 xnm_X0 dX3_init_31 K_X0 (Nat.le_of_ble_eq_true rfl) (fun w2 hw2 => ?_)
  obtain ⟨m2, rfl⟩ := hw2
  refine h_putF (pc := 34) (q0 := 0) hK hE.2.2.2.1 dX3_init_34 hF_X3_19 rfl rfl rfl (Nat.le_of_ble_eq_true rfl) ?_
  refine h_ws (ws' := (h0, .inr (2, [.ref a0, .ref a1, .ref a2, .int 0, .null, .null, .null])) :: ((mnt (gK.ca (M_X3_init, K')) a0 m0 ++ mnt (gK.ca (M_X3_init, K')) a1 m1) ++ mnt (gK.ca (M_X3_init, K')) a2 m2)) rfl ?_
  refine h_aload (pc := 37) hK dX3_init_37 rfl List.mem_cons_self ?_
  refine h_iconst (pc := 38) hK dX3_init_38 (show _ = (0 : Int32) by decide) ?_
  refine h_put (pc := 39) (q0 := 0) hK dX3_init_39 hP_X3_22 rfl rfl rfl (Nat.le_of_ble_eq_true rfl) ?_
  refine h_ws (ws' := (h0, .inr (2, [.ref a0, .ref a1, .ref a2, .int 0, .null, .null, .null])) :: ((mnt (gK.ca (M_X3_init, K')) a0 m0 ++ mnt (gK.ca (M_X3_init, K')) a1 m1) ++ mnt (gK.ca (M_X3_init, K')) a2 m2)) rfl ?_
  refine h_aload (pc := 42) hK dX3_init_42 rfl List.mem_cons_self ?_
  refine h_bipush (pc := 43) hK dX3_init_43 (show _ = (8 : Int32) by decide) ?_
  refine h_anew (pc := 45) (N := 8) hK hE.2.2.2.2 xnk_X1 dX3_init_45 (by decide) (by decide) (by decide) (by rw [hR]; exact Nat.le_of_ble_eq_true rfl) (by rw [hR]; exact Nat.le_of_ble_eq_true rfl) (fun qs => ?_)
  refine h_putF (pc := 48) (q0 := 0) hK hE.2.2.2.1 dX3_init_48 hF_X3_28 rfl rfl rfl (Nat.le_of_ble_eq_true rfl) ?_
  refine h_ws (ws' := (h0, .inr (2, [.ref a0, .ref a1, .ref a2, .int 0, .ref qs, .null, .null])) :: (((mnt (gK.ca (M_X3_init, K')) a0 m0 ++ mnt (gK.ca (M_X3_init, K')) a1 m1) ++ mnt (gK.ca (M_X3_init, K')) a2 m2) ++ [(qs, .inl ((gK.ca (M_X3_init, K')) 2, 8, .inr (.inr (.inr (.inr (fun _ => none))))))])) rfl ?_
  refine h_aload (pc := 51) hK dX3_init_51 rfl List.mem_cons_self ?_
  refine h_iconst (pc := 52) hK dX3_init_52 (show _ = (4 : Int32) by decide) ?_
  refine h_newI (pc := 53) (N := 4) hK xarrI dX3_init_53 (by decide) (by decide) (by decide) (by rw [hR]; exact Nat.le_of_ble_eq_true rfl) (by rw [hR]; exact Nat.le_of_ble_eq_true rfl) (fun qo => ?_)
  refine h_putF (pc := 55) (q0 := 0) hK hE.2.2.2.1 dX3_init_55 hF_X3_32 rfl rfl rfl (Nat.le_of_ble_eq_true rfl) ?_
  refine h_ws (ws' := (h0, .inr (2, [.ref a0, .ref a1, .ref a2, .int 0, .ref qs, .ref qo, .null])) :: (((mnt (gK.ca (M_X3_init, K')) a0 m0 ++ mnt (gK.ca (M_X3_init, K')) a1 m1) ++ mnt (gK.ca (M_X3_init, K')) a2 m2) ++ [(qs, .inl ((gK.ca (M_X3_init, K')) 2, 8, .inr (.inr (.inr (.inr (fun _ => none))))))] ++ [(qo, .inl ((gK.ca (M_X3_init, K')) 0, 4, .inl (fun _ => 0)))])) rfl ?_
  refine h_aload (pc := 58) hK dX3_init_58 rfl List.mem_cons_self ?_
  refine h_iconst (pc := 59) hK dX3_init_59 (show _ = (4 : Int32) by decide) ?_
  refine h_newI (pc := 60) (N := 4) hK xarrI dX3_init_60 (by decide) (by decide) (by decide) (by rw [hR]; exact Nat.le_of_ble_eq_true rfl) (by rw [hR]; exact Nat.le_of_ble_eq_true rfl) (fun qt => ?_)
  refine h_putF (pc := 62) (q0 := 0) hK hE.2.2.2.1 dX3_init_62 hF_X3_36 rfl rfl rfl (Nat.le_of_ble_eq_true rfl) ?_
  refine h_ws (ws' := (h0, .inr (2, [.ref a0, .ref a1, .ref a2, .int 0, .ref qs, .ref qo, .ref qt])) :: (((mnt (gK.ca (M_X3_init, K')) a0 m0 ++ mnt (gK.ca (M_X3_init, K')) a1 m1) ++ mnt (gK.ca (M_X3_init, K')) a2 m2) ++ [(qs, .inl ((gK.ca (M_X3_init, K')) 2, 8, .inr (.inr (.inr (.inr (fun _ => none))))))] ++ [(qo, .inl ((gK.ca (M_X3_init, K')) 0, 4, .inl (fun _ => 0)))] ++ [(qt, .inl ((gK.ca (M_X3_init, K')) 0, 4, .inl (fun _ => 0)))])) rfl ?_
  refine h_iconst (pc := 65) hK dX3_init_65 (show _ = (0 : Int32) by decide) ?_
  refine h_istore1 (pc := 66) (Lr' := [(1, .int (nI 0)), (0, .ref h0)]) hK dX3_init_66 (show 1 < 2 by decide) rfl ?_
  refine h_ws (ws' := wsX3 _ h0 a0 a1 a2 m0 m1 m2 qs qo qt (fun _ => 0) (fun _ => 0) 0) rfl ?_
  refine lp_X3 rfl hK hE.2.2.2.2 hR (fun s e => ?_) 8 0 _ _ (by decide)
  exact k_ret (pc := 92) hK hE (Nat.le_refl _) (Nat.le_refl _) dX3_init_92 rfl ⟨a0, a1, a2, m0, m1, m2, qs, qo, qt, s, e, rfl⟩
