/-! contracts of constructors -/
def kR (M : aM) (mc ms : Nat) : Room := { frames := M.2.2.2.2.1, cells := mc, slots := ms, locals := M.2.2.2.2.2 }
def kPc (D : va_G) (ca : Nat → Nat) (ws : va_W) (sz : Nat) : State → Prop := fun U => U.heap.size = sz ∧ va_P D a_cl ws U.heap ∧ va_K D a_cl (a_tys ca) U ∧ va_D (fun _ => True) ws ∧ (∀ w ∈ a_Ns, va_Nw w U) ∧ va_AO "WhoeverNamesIt$Shelf" U
def kQc (D : va_G) (ca : Nat → Nat) (w0 : va_W) (sz h0 : Nat) (post : (Nat → Nat) → Nat → va_W → Prop) : Array Value → State → Outcome → State → Prop := fun _ st oc t => (oc = .returned none ∧ ∃ ws, post ca h0 ws ∧ va_P D a_cl ws t.heap ∧ va_D (va_A w0 sz) ws) ∧ va_F (va_A w0 sz) st t
def Kp (M : aM) (ci : Nat) (fs : List Value) (mc ms : Nat) (post : (Nat → Nat) → Nat → va_W → Prop) : Prop := ∀ (l : Launch) (D : va_G) (ca : Nat → Nat) (h0 sz : Nat),
  Met l M.1 (Cond.code M.1 M.2.1 M.2.2.1 M.2.2.2.1 :: a_T) (kR M mc ms) (va_Pc [.ref h0] (kPc D ca [(h0, .inr (ci, fs))] sz)) (kQc D ca [(h0, .inr (ci, fs))] sz h0 post) mc ms (va_A [(h0, .inr (ci, fs))] sz)
def kEnd (K : gK) (ci : Nat) (fs : List Value) (mc ms h0 : Nat) (post : (Nat → Nat) → Nat → va_W → Prop) : Prop := K.A = va_A [(h0, .inr (ci, fs))] K.s.heap.size ∧ K.Z = MQ K.below (kQc K.D K.ca [(h0, .inr (ci, fs))] K.s.heap.size h0 post) K.args K.s mc ms (va_A [(h0, .inr (ci, fs))] K.s.heap.size) ∧ K.R = kR K.M mc ms ∧ K.meth.name = "<init>" ∧ va_AO "WhoeverNamesIt$Shelf" K.s
theorem k_entry {M : aM} {ci mc ms : Nat} {fs : List Value} {post : (Nat → Nat) → Nat → va_W → Prop} (hy : plainName M.1.cls = true) (hin : M.1.name = "<init>") (hlen : 1 ≤ M.2.2.1) (k : ∀ (K : gK) (h0 : Nat), K.M = M → K.Ok → kEnd K ci fs mc ms h0 post → Hw K 0 0 0 [(0, .ref h0)] [] [(h0, .inr (ci, fs))]) : Kp M ci fs mc ms post := by
  intro l D ca h0 sz
  refine Met.ofW (cc := M.2.1) (maxL := M.2.2.1) (ret := M.2.2.2.1) hy rfl ?_
  intro p e s m args below meth c s₁ B hml hv
  obtain ⟨rfl, hsz, hP, hK, hD0, hN, hAO⟩ := hv
  have hts : ∀ w ∈ (Cond.code M.1 M.2.1 M.2.2.1 M.2.2.2.1 :: a_T), w.before ([.ref h0] : List Value).toArray s = true := atoms_spec (ws := Cond.code M.1 M.2.1 M.2.2.1 M.2.2.2.1 :: a_T) B.pre
  have hnm : meth.name = "<init>" := (name_of_methodNamed B.named B.method).1.trans hin
  subst hsz
  have hC : a_Cx M D ca p s m ([.ref h0] : List Value).toArray meth c := ⟨B.exec, B.bytes, hml, B.returns, findClass_of_methodNamed B.named, fun w hw => hts w (List.mem_cons_of_mem _ hw), hN, B.notSynchronized, hK⟩
  have hA : ∀ x : Nat, s.heap.size ≤ x → va_A [(h0, .inr (ci, fs))] s.heap.size x := fun x h => Or.inr h
  have hl := lv_entry ([.ref h0] : List Value) (n := M.2.2.1) hlen
  rw [lg_entry_eq]
  exact k (M, kR M mc ms, l, D, fun _ => 0, ca, p, e, s, m, ([.ref h0] : List Value).toArray, below, meth, c, va_A [(h0, .inr (ci, fs))] s.heap.size, MQ below (kQc D ca [(h0, .inr (ci, fs))] s.heap.size h0 post) ([.ref h0] : List Value).toArray s mc ms (va_A [(h0, .inr (ci, fs))] s.heap.size)) h0 rfl ⟨hC, hA⟩ ⟨rfl, rfl, rfl, hnm, hAO⟩ s.heap [] _ hP hD0.self va_S.rf hl
theorem k_ret {K : gK} {ci mc ms h0 t u pc : Nat} {fs : List Value} {Lr : List (Nat × Value)} {post : (Nat → Nat) → Nat → va_W → Prop} {ws : va_W} (hK : K.Ok) (hE : kEnd K ci fs mc ms h0 post) (ht : t ≤ mc) (hu : u ≤ ms) (hd : decode K.M.2.1 pc = .ok (.return_, 1)) (hr : K.M.2.2.2.1 = none) (hp : post K.ca h0 ws) : Hw K t u pc Lr [] ws := by
  obtain ⟨hA, hZ, hR, hnm, hAO⟩ := hE
  intro H locs ls hP hD hS hl
  rw [hZ]
  rw [hA] at hS hD
  refine W.widen (k := mc) (n := ms) ht hu ?_
  exact W.vret hK.1.1 hK.1.2.1 (hK.1.2.2.2.1.trans hr) (fun t ht hW => ⟨⟨rfl, ws, hp, by rw [ht]; exact hP, hD⟩, hS.F ht⟩) hS.2.2 hd hK.1.2.2.2.2.2.2.2.1
theorem xarrI : Cond.arrayClass .int ∈ a_T := a_in 157 (by decide +kernel) rfl
theorem xarrL : Cond.arrayClass .long ∈ a_T := a_in 977 (by decide +kernel) rfl
theorem xoI : Cond.instanceMethod objectInit ∈ a_T := a_in 97 (by decide +kernel) rfl
theorem xoC : Cond.code objectInit ⟨#[0xb1]⟩ 1 none ∈ a_T := a_in 98 (by decide +kernel) rfl
def M_X1_init : aM := (yX1_init, cX1_init, 1, none, 1, 12)
theorem ok_X1_init : a_okM M_X1_init 0 := ⟨⟨by decide +kernel, by decide +kernel⟩, by decide +kernel, a_in 163 (by decide +kernel) rfl, a_in 78 (by decide +kernel) rfl⟩
theorem dX1_init_0 : decode M_X1_init.2.1 0 = .ok (.aload_n 0, 1) := by decide +kernel
theorem dX1_init_1 : decode M_X1_init.2.1 1 = .ok (.invokespecial 3, 3) := by decide +kernel
theorem dX1_init_4 : decode M_X1_init.2.1 4 = .ok (.aload_n 0, 1) := by decide +kernel
theorem dX1_init_5 : decode M_X1_init.2.1 5 = .ok (.iconst 0, 1) := by decide +kernel
theorem dX1_init_6 : decode M_X1_init.2.1 6 = .ok (.putfield 11, 3) := by decide +kernel
theorem dX1_init_9 : decode M_X1_init.2.1 9 = .ok (.aload_n 0, 1) := by decide +kernel
theorem dX1_init_10 : decode M_X1_init.2.1 10 = .ok (.iconst 0, 1) := by decide +kernel
theorem dX1_init_11 : decode M_X1_init.2.1 11 = .ok (.putfield 15, 3) := by decide +kernel
theorem dX1_init_14 : decode M_X1_init.2.1 14 = .ok (.aload_n 0, 1) := by decide +kernel
theorem dX1_init_15 : decode M_X1_init.2.1 15 = .ok (.iconst 0, 1) := by decide +kernel
theorem dX1_init_16 : decode M_X1_init.2.1 16 = .ok (.putfield 18, 3) := by decide +kernel
theorem dX1_init_19 : decode M_X1_init.2.1 19 = .ok (.aload_n 0, 1) := by decide +kernel
theorem dX1_init_20 : decode M_X1_init.2.1 20 = .ok (.iconst 0, 1) := by decide +kernel
theorem dX1_init_21 : decode M_X1_init.2.1 21 = .ok (.putfield 21, 3) := by decide +kernel
theorem dX1_init_24 : decode M_X1_init.2.1 24 = .ok (.aload_n 0, 1) := by decide +kernel
theorem dX1_init_25 : decode M_X1_init.2.1 25 = .ok (.iconst 0, 1) := by decide +kernel
theorem dX1_init_26 : decode M_X1_init.2.1 26 = .ok (.putfield 24, 3) := by decide +kernel
theorem dX1_init_29 : decode M_X1_init.2.1 29 = .ok (.aload_n 0, 1) := by decide +kernel
theorem dX1_init_30 : decode M_X1_init.2.1 30 = .ok (.bipush 100, 2) := by decide +kernel
theorem dX1_init_32 : decode M_X1_init.2.1 32 = .ok (.newarray .int, 2) := by decide +kernel
theorem dX1_init_34 : decode M_X1_init.2.1 34 = .ok (.putfield 27, 3) := by decide +kernel
theorem dX1_init_37 : decode M_X1_init.2.1 37 = .ok (.return_, 1) := by decide +kernel
theorem hP_X1_11 : a_fw RX1 11 1 0 (.int) := ⟨RX1, TX1, 6, tyX1, rfl, tin_X1, by decide, a_in 165 (by decide +kernel) rfl, tyX1_ok, nmX1, rfl, by decide +kernel⟩
theorem hP_X1_15 : a_fw RX1 15 1 1 (.int) := ⟨RX1, TX1, 6, tyX1, rfl, tin_X1, by decide, a_in 167 (by decide +kernel) rfl, tyX1_ok, nmX1, rfl, by decide +kernel⟩
theorem hP_X1_18 : a_fw RX1 18 1 2 (.int) := ⟨RX1, TX1, 6, tyX1, rfl, tin_X1, by decide, a_in 169 (by decide +kernel) rfl, tyX1_ok, nmX1, rfl, by decide +kernel⟩
theorem hP_X1_21 : a_fw RX1 21 1 3 (.int) := ⟨RX1, TX1, 6, tyX1, rfl, tin_X1, by decide, a_in 171 (by decide +kernel) rfl, tyX1_ok, nmX1, rfl, by decide +kernel⟩
theorem hP_X1_24 : a_fw RX1 24 1 4 (.int) := ⟨RX1, TX1, 6, tyX1, rfl, tin_X1, by decide, a_in 173 (by decide +kernel) rfl, tyX1_ok, nmX1, rfl, by decide +kernel⟩
theorem hF_X1_27 : a_fF RX1 27 1 5 (.array .int) := ⟨RX1, TX1, 6, tyX1, rfl, tin_X1, by decide, a_in 175 (by decide +kernel) rfl, tyX1_ok, nmX1, rfl, by decide +kernel, rfl⟩
theorem xo_X1 : Cond.methodLink RX1 3 objectInit ∈ a_T := a_in 164 (by decide +kernel) rfl
def zS : List Value := [.int 0, .int 0, .int 0, .int 0, .int 0, .null]
def postS (ca : Nat → Nat) (h0 : Nat) (ws : va_W) : Prop := ∃ q : Nat, ws = [(h0, .inr (1, [.int 0, .int 0, .int 0, .int 0, .int 0, .ref q])), (q, .inl (ca 0, 100, .inl (fun _ => 0)))]
theorem K_X1 : Kp M_X1_init 1 zS 1 100 postS := by
  refine k_entry (by decide +kernel) rfl (Nat.le_of_ble_eq_true rfl) (fun K h0 hM hK hE => ?_)
  obtain ⟨M, K'⟩ := K
  have hM : M = M_X1_init := hM
  subst hM
  have hR : gK.R (M_X1_init, K') = kR M_X1_init 1 100 := hE.2.2.1
  refine h_aload (pc := 0) hK dX1_init_0 rfl List.mem_cons_self ?_
  refine h_objInit (pc := 1) hK xo_X1 xoI xoC dX1_init_1 (by rw [hR]; exact Nat.le_of_ble_eq_true rfl) (by rw [hR]; exact Nat.le_of_ble_eq_true rfl) ?_
  unfold zS
  refine h_aload (pc := 4) hK dX1_init_4 rfl List.mem_cons_self ?_
  refine h_iconst (pc := 5) hK dX1_init_5 (show _ = (0 : Int32) by decide) ?_
  refine h_put (pc := 6) (q0 := 0) hK dX1_init_6 hP_X1_11 rfl rfl rfl (Nat.le_of_ble_eq_true rfl) ?_
  refine h_aload (pc := 9) hK dX1_init_9 rfl List.mem_cons_self ?_
  refine h_iconst (pc := 10) hK dX1_init_10 (show _ = (0 : Int32) by decide) ?_
  refine h_put (pc := 11) (q0 := 0) hK dX1_init_11 hP_X1_15 rfl rfl rfl (Nat.le_of_ble_eq_true rfl) ?_
  refine h_aload (pc := 14) hK dX1_init_14 rfl List.mem_cons_self ?_
  refine h_iconst (pc := 15) hK dX1_init_15 (show _ = (0 : Int32) by decide) ?_
  refine h_put (pc := 16) (q0 := 0) hK dX1_init_16 hP_X1_18 rfl rfl rfl (Nat.le_of_ble_eq_true rfl) ?_
  refine h_aload (pc := 19) hK dX1_init_19 rfl List.mem_cons_self ?_
  refine h_iconst (pc := 20) hK dX1_init_20 (show _ = (0 : Int32) by decide) ?_
  refine h_put (pc := 21) (q0 := 0) hK dX1_init_21 hP_X1_21 rfl rfl rfl (Nat.le_of_ble_eq_true rfl) ?_
  refine h_aload (pc := 24) hK dX1_init_24 rfl List.mem_cons_self ?_
  refine h_iconst (pc := 25) hK dX1_init_25 (show _ = (0 : Int32) by decide) ?_
  refine h_put (pc := 26) (q0 := 0) hK dX1_init_26 hP_X1_24 rfl rfl rfl (Nat.le_of_ble_eq_true rfl) ?_
  refine h_aload (pc := 29) hK dX1_init_29 rfl List.mem_cons_self ?_
  refine h_bipush (pc := 30) hK dX1_init_30 (show _ = (100 : Int32) by decide) ?_
  refine h_fld (pc := 32) (N := 100) hK hE.2.2.2.1 xarrI dX1_init_32 dX1_init_34 hF_X1_27 (by decide) (by decide) (by decide) (by rw [hR]; exact Nat.le_of_ble_eq_true rfl) (by rw [hR]; exact Nat.le_of_ble_eq_true rfl) (Nat.le_of_ble_eq_true rfl) (fun q0 => ?_)
  exact k_ret (pc := 37) hK hE (by decide) (by decide) dX1_init_37 rfl ⟨q0, rfl⟩
