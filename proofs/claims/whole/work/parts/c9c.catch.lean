/-! Methods with a table of their own that always return; calls that may throw -/
def Yp {τ : Type} (rv : τ → Option Value) (M : aM) (hh : List (Nat × Nat × Nat × Nat)) (av : List Value) (w : aW) (q : τ × aW) : Prop := ∀ (l : Launch) (_ : l.stackTraces = false) (D : va_G) (ad ca : Nat → Nat) (sz : Nat),
  Met l M.1 (Cond.codeWith M.1 M.2.1 M.2.2.1 M.2.2.2.1 hh :: a_T) (a_RX M) (va_Pc (av.map (a_v ad)) (xPc D ad ca w sz)) (fun _ st oc t => (oc = .returned ((rv q.1).map (a_v ad)) ∧ va_P D a_cl (a_w ad ca q.2) t.heap) ∧ va_F (va_A (a_w ad ca w) sz) st t) 1 6 (va_A (a_w ad ca w) sz)
def yEnd {τ : Type} (rv : τ → Option Value) (K : gK) (hh : List (Nat × Nat × Nat × Nat)) (w : aW) (q : τ × aW) : Prop := K.A = va_A (a_w K.ad K.ca w) K.s.heap.size ∧ K.Z = MQ K.below (fun _ st oc t => (oc = .returned ((rv q.1).map (a_v K.ad)) ∧ va_P K.D a_cl (a_w K.ad K.ca q.2) t.heap) ∧ va_F (va_A (a_w K.ad K.ca w) K.s.heap.size) st t) K.args K.s 1 6 (va_A (a_w K.ad K.ca w) K.s.heap.size) ∧ K.R = a_RX K.M ∧ K.c.exceptionTable.toList = tableOf hh ∧ K.l.stackTraces = false ∧ xEx K.A K.s K.s.heap
theorem y_entry {τ : Type} {rv : τ → Option Value} {M : aM} {hh : List (Nat × Nat × Nat × Nat)} {av : List Value} {w : aW} {q : τ × aW} (L : List (Option Value)) (hy : plainName M.1.cls = true) (hlen : (lg_sl av).length ≤ M.2.2.1) (hL : ∀ ad : Nat → Nat, a_l ad 0 L = lv_args 0 (av.map (a_v ad))) (k : ∀ K : gK, K.M = M → K.Ok → yEnd rv K hh w q → Gw K 0 0 0 L [] w) : Yp rv M hh av w q := by
  intro l hl0 D ad ca sz
  refine MetFree.of_bodyS (code := M.2.1) (maxLocals := M.2.2.1) (ret := M.2.2.2.1) hy ?_ ?_
  · intro args s m h hn
    obtain ⟨m9, meth, c, hn9, h1, h2, h3, h4, -, h5, h6, -⟩ := Cond.codeWith_spec (atoms_spec (ws := Cond.codeWith M.1 M.2.1 M.2.2.1 M.2.2.2.1 hh :: a_T) h _ List.mem_cons_self)
    cases hn.symm.trans hn9
    exact ⟨meth, c, h1, h2, h3, h4, h5, h6⟩
  · intro p e s m args below meth c s₁ B hml hv _
    have hh0 : s₁.heap = s.heap := by rw [B.state]; rfl
    obtain ⟨rfl, hsz, hP, hK, hD0, hN, hX⟩ := hv
    have hts : ∀ w ∈ (Cond.codeWith M.1 M.2.1 M.2.2.1 M.2.2.2.1 hh :: a_T), w.before (av.map (a_v ad)).toArray s = true := atoms_spec (ws := Cond.codeWith M.1 M.2.1 M.2.2.1 M.2.2.2.1 hh :: a_T) B.pre
    have htab := vx_table (x := M.1) B (hts _ List.mem_cons_self)
    subst hsz
    have hC : a_Cx M D ca p s m (av.map (a_v ad)).toArray meth c := ⟨B.exec, B.bytes, hml, B.returns, findClass_of_methodNamed B.named, fun w hw => hts w (List.mem_cons_of_mem _ hw), hN, B.notSynchronized, hK⟩
    have hA : ∀ x : Nat, s.heap.size ≤ x → va_A (a_w ad ca w) s.heap.size x := fun x h => Or.inr h
    have hlen2 : (lg_sl (av.map (a_v ad))).length ≤ M.2.2.1 := by
      have : ∀ vs : List Value, (lg_sl (vs.map (a_v ad))).length = (lg_sl vs).length := by
        intro vs
        induction vs with
        | nil => rfl
        | cons v t ih =>
          simp only [List.map_cons, lg_sl, List.flatMap_cons, List.length_append] at ih ⊢
          rw [ih, a_cat]
          by_cases h2 : v.category = 2 <;> simp [h2]
      rw [this]; exact hlen
    have hl := lv_entry (av.map (a_v ad)) hlen2
    rw [← hL ad] at hl
    have hgo := k (M, a_RX M, l, D, ad, ca, p, e, s, m, (av.map (a_v ad)).toArray, below, meth, c, va_A (a_w ad ca w) s.heap.size, MQ below (fun _ st oc t => (oc = .returned ((rv q.1).map (a_v ad)) ∧ va_P D a_cl (a_w ad ca q.2) t.heap) ∧ va_F (va_A (a_w ad ca w) s.heap.size) st t) (av.map (a_v ad)).toArray s 1 6 (va_A (a_w ad ca w) s.heap.size)) rfl ⟨hC, hA⟩ ⟨rfl, rfl, rfl, htab, hl0, hX⟩ s.heap [] _ hP hD0.self va_S.rf hl
    have hW : W p l e (a_RX M) s m (av.map (a_v ad)).toArray below meth c s.heap [] 0 0 (MQ below (fun _ st oc t => (oc = .returned ((rv q.1).map (a_v ad)) ∧ va_P D a_cl (a_w ad ca q.2) t.heap) ∧ va_F (va_A (a_w ad ca w) s.heap.size) st t) (av.map (a_v ad)).toArray s 1 6 (va_A (a_w ad ca w) s.heap.size)) (entryFrame m (av.map (a_v ad)).toArray M.2.2.1) := by
      rw [lg_entry_eq]
      exact hgo
    obtain ⟨t, a1, o, b1, b2, b3⟩ := hW s₁ hh0 (Stand.of_body B)
    exact ⟨t, o, a1, b1, b2, b3⟩
theorem y_iret {K : gK} {hh : List (Nat × Nat × Nat × Nat)} {w w' : aW} {t u pc : Nat} {L : List (Option Value)} {x : Int32} (hK : K.Ok) (hE : yEnd rvI K hh w (x, w')) (ht : t ≤ 1) (hu : u ≤ 6) (hd : decode K.M.2.1 pc = .ok (.ireturn, 1)) (hr : K.M.2.2.2.1 = some .int) : Gw K t u pc L [.int x] w' := by
  obtain ⟨hA, hZ, hR, htab, hl0, hX⟩ := hE
  intro H locs ls hP hD hS hl
  rw [hZ]
  rw [hA] at hS
  refine W.widen (k := 1) (n := 6) ht hu ?_
  exact W.zret hK.1.1 hK.1.2.1 (hK.1.2.2.2.1.trans hr) rfl (fun t ht hW => ⟨⟨rfl, by rw [ht]; exact hP⟩, hS.F ht⟩) hS.2.2 hd hK.1.2.2.2.2.2.2.2.1
/-- what is thrown over this method's frame at pc -/
def yX (K : gK) (t u : Nat) (pc : Nat) (L : List (Option Value)) (S : List Value) (w : aW) (E : String) : Prop := ∀ (H : Heap) (locs : List Loc) (ls : Array Slot) (q : Addr) (ce : Cell), va_P K.D a_cl (a_w K.ad K.ca w) H → va_D K.A (a_w K.ad K.ca w) → va_S K.A K.s.heap H locs → lv_has ls K.M.2.2.1 (a_l K.ad 0 L) → H[q]? = some ce → ce.vm = .none → K.s.vm.findClass E = some ce.cls →
  vx_W K.p K.l K.e K.R K.s K.m K.args K.below K.meth K.c H locs t u K.Z (F0 K.m pc ls (S.map (a_v K.ad))) q
theorem y_catch {K : gK} {t u pc hp : Nat} {L : List (Option Value)} {S : List Value} {w : aW} {E nm : String} (hK : K.Ok) (hX : xEx K.A K.s K.s.heap) (pre : List ExceptionTableEntry) (x : ExceptionTableEntry) (suf : List ExceptionTableEntry) (hsplit : K.c.exceptionTable.toList = pre ++ x :: suf)
    (hpass : ∀ z ∈ pre, covers z pc = false ∨ (z.catchType ≠ 0 ∧ ∃ nm : String, (Cond.classLink K.M.1.cls z.catchType nm) ∈ a_T ∧ va_Nc E nm K.s)) (hx : covers x pc = true) (h0 : x.catchType ≠ 0)
    (hlink : Cond.classLink K.M.1.cls x.catchType nm ∈ a_T) (hcast : Cond.castable E nm ∈ a_Xs) (hhp : x.handlerPc = hp) (hd : decode K.M.2.1 hp = .ok (.astore 4, 2)) (hn : 4 < K.M.2.2.1) (h4 : ∀ (j : Nat) (v : Value), L[j]? = some (some v) → j ≠ 4 ∧ ¬ (j + 1 = 4 ∧ v.category = 2)) (k : Gw K t u (hp + 2) L [] w) : yX K t u pc L S w E := by
  subst hhp
  intro H locs ls q ce hP hD hS hl hce hcv hcl
  have hts := hK.1.2.2.2.2.2.1
  refine vx_catch hK.1.2.2.2.2.1 pre x suf hsplit (fun z hz => ?_) hx h0 (hts _ hlink) (va_Nw.use (a_XsT hcast) (hX.1 _ hcast)) hce hcv hcl ?_
  · rcases hpass z hz with h | ⟨h, nm', h2, h3⟩
    · exact Or.inl h
    · exact Or.inr ⟨h, nm', hts _ h2, h3⟩
  · refine lv_astore hK.1.1 hK.1.2.1 hd hl hn rfl (fun ls' hl' => k H locs ls' hP hD hS ?_)
    refine ⟨hl'.1, hl'.2.1, fun z hz => hl'.2.2 z ?_⟩
    obtain ⟨j, v, e1, e2⟩ := a_l_out _ _ _ hz
    rw [Nat.zero_add] at e1
    obtain ⟨g1, g2⟩ := h4 j v e2
    refine List.mem_cons_of_mem _ (List.mem_filter.mpr ⟨hz, ?_⟩)
    subst e1
    by_cases h9 : j = 3
    · have g3 : ¬ v.category = 2 := fun h => g2 ⟨by omega, h⟩
      simp [g1, h9, a_cat, g3]
    · simp [g1, h9]
theorem y_keep {K : gK} {w : aW} {H H1 : Heap} {locs Lc : List Loc} (hK : K.Ok) (hD : va_D K.A (a_w K.ad K.ca w)) (hS : va_S K.A K.s.heap H locs) (hz : H.size ≤ H1.size) (hk : ∀ q : Nat, q < H.size → ¬ va_A (a_w K.ad K.ca w) H.size q → H1[q]? = H[q]?) (hL : ∀ q ∈ Lc, va_A (a_w K.ad K.ca w) H.size q.base) : va_S K.A K.s.heap H1 (locs ++ Lc) := by
  have hfree : ∀ q, va_A (a_w K.ad K.ca w) H.size q → K.A q := by
    intro q h
    rcases h with ⟨k, e, h⟩ | h
    · exact hD.2 k _ h
    · exact hK.2 q (Nat.le_trans hS.1 h)
  exact ⟨Nat.le_trans hS.1 hz, fun q h1 h2 => by
      rw [hk q (Nat.lt_of_lt_of_le h1 hS.1) (fun z => h2 (hfree q z))]; exact hS.2.1 q h1 h2, fun q hq => by
      rcases List.mem_append.mp hq with h | h
      · exact hS.2.2 q h
      · exact hfree _ (hL q h)⟩
theorem y_xEx {K : gK} {w : aW} {H : Heap} {locs : List Loc} (hK : K.Ok) (hX : xEx K.A K.s K.s.heap) (hD : va_D K.A (a_w K.ad K.ca w)) (hS : va_S K.A K.s.heap H locs) {U : State} (hU : U.heap = H) (hW : K.s.WarmedH U.vm) : xEx (va_A (a_w K.ad K.ca w) H.size) U U.heap := by
  have hfree : ∀ q, va_A (a_w K.ad K.ca w) H.size q → K.A q := by
    intro q h
    rcases h with ⟨k, e, h⟩ | h
    · exact hD.2 k _ h
    · exact hK.2 q (Nat.le_trans hS.1 h)
  rw [hU]
  exact ((hX.kept (fun a h1 h2 => hS.2.1 a h1 h2)).narrow hfree).warm hW
theorem x_blind {D : va_G} {ad ca : Nat → Nat} {sz : Nat} {av : List Value} {w : aW} : FrameBlind (va_Pc av (xPc D ad ca w sz)) := by
  intro a U g mk q
  obtain ⟨q0, q1, qP, qK, qD, qN, qX⟩ := q
  exact ⟨q0, q1, qP, va_K.moved (u := U) (U := U.calling g mk a) (Vm.Alike.refl U.vm) qK, qD, fun w hw => va_Nw.same (u := U) (U := U.calling g mk a) (a_NsOn hw) rfl (qN w hw), xEx.same (u := U) (U := U.calling g mk a) rfl qX⟩
theorem y_pre {K : gK} {av : List Value} {w : aW} {H : Heap} {locs : List Loc} (hK : K.Ok) (hX : xEx K.A K.s K.s.heap) (hP : va_P K.D a_cl (a_w K.ad K.ca w) H) (hD : va_D K.A (a_w K.ad K.ca w)) (hS : va_S K.A K.s.heap H locs) :
    ∀ U : State, U.heap = H → K.s.WarmedH U.vm → va_Pc av (xPc K.D K.ad K.ca w H.size) av.toArray U :=
  fun U hU hW => ⟨rfl, by rw [hU], by rw [hU]; exact hP, va_K.moved hW.alike hK.1.2.2.2.2.2.2.2.2, hD.weaken (fun _ _ _ _ => trivial), a_NsW hW hK.1.2.2.2.2.2.2.1, y_xEx hK hX hD hS hU hW⟩
theorem y_run {τ : Type} {rv : τ → Option Value} {K : gK} {res : τ ⊕ String} {pc t u : Nat} {L : List (Option Value)} {S : List Value} {w : aW} {ls : Array Slot} {st0 : List Value} {H : Heap} {locs : List Loc} {a : Array Value} (hK : K.Ok) (hD : va_D K.A (a_w K.ad K.ca w)) (hS : va_S K.A K.s.heap H locs) (hl : lv_has ls K.M.2.2.1 (a_l K.ad 0 L))
    (hrun : vx_Run K.p K.l K.e K.R K.s K.m K.args K.below K.meth K.c H locs t u 1 6 (F0 K.m pc ls st0) (S.map (a_v K.ad)) (xQc rv K.D K.ad K.ca w H.size res a) (xXc K.D K.ad K.ca w H.size res) (va_A (a_w K.ad K.ca w) H.size))
    (kk : ∀ r, res = .inl r → Gw K (t + 1) (u + 6) (pc + 3) L ((rv r).toList ++ S) w) (kx : ∀ E, res = .inr E → yX K (t + 1) (u + 6) pc L S w E) : W K.p K.l K.e K.R K.s K.m K.args K.below K.meth K.c H locs t u K.Z (F0 K.m pc ls st0) := by
  intro T hT X
  rcases hrun T hT X with ⟨v, st₀, tt, T', Lc, h0, X', hL, e1, e2, ⟨⟨⟨r, hr, hv⟩, hP1⟩, hz, hk⟩, st⟩ | ⟨q, st₀, tt, T', Lc, E, ce, h0, X', hL, e1, e2, ⟨⟨hr, hP1⟩, hz, hk⟩, hce, hcv, hcl, st⟩
  · have hv' : v = (rv r).map (a_v K.ad) := Outcome.returned.inj hv
    subst hv'
    rw [h0] at hz hk
    rw [← e1] at hz hk hP1
    have hgo := kk r hr T'.heap (locs ++ Lc) ls hP1 hD (y_keep hK hD hS hz hk hL) hl
    rw [List.map_append] at hgo
    have h9 : ((rv r).toList).map (a_v K.ad) = ((rv r).map (a_v K.ad)).toList := by cases rv r <;> rfl
    rw [h9] at hgo
    obtain ⟨t2, a1, b1⟩ := hgo T' rfl X'
    exact ⟨t2, st t2 a1, b1⟩
  · rw [h0] at hz hk
    rw [← e1] at hz hk hP1 hce
    obtain ⟨t2, a1, b1⟩ := kx E hr T'.heap (locs ++ Lc) ls q ce hP1 hD (y_keep hK hD hS hz hk hL) hl hce hcv hcl T' rfl X'
    exact ⟨t2, st.trans a1, b1⟩
theorem x_cb {own : String} {s : State} {args : Array Value} {R : Room} {idx' n : Nat} {M' : aM} (hts : ∀ w ∈ a_T, w.before args s = true) (hM' : a_okM M' n) (hrm : M'.2.2.2.2.1 + 1 ≤ R.frames ∧ 8 + (M'.2.2.1 + 11) + M'.2.2.2.2.2 ≤ R.locals) (hl : Cond.methodLink own idx' M'.1 ∈ a_T) : CallB R s args own idx' M'.1 M'.2.1 M'.2.2.1 M'.2.2.2.1 (Cond.code M'.1 M'.2.1 M'.2.2.1 M'.2.2.2.1 :: a_T) (a_RX M') 1 6 n := by
  refine ⟨rfl, rfl, hrm.1, hrm.2, ?_, List.mem_cons_self, hts _ hM'.2.2.1, hts _ hM'.2.2.2, hM'.1, fun sig h => ?_, hts _ hl⟩
  · exact pay_in hts (fun w hw => by
      rcases List.mem_cons.mp hw with h | h
      · subst h; exact a_good _ hM'.2.2.1
      · exact a_good _ h)
  · have h2 := hM'.2.1
    rw [h] at h2
    exact (Option.some.inj h2).symm
theorem y_callS {τ' : Type} {rv' : τ' → Option Value} {K : gK} {M' : aM} {idx n pc t u : Nat} {L : List (Option Value)} {av S S0 : List Value} {w : aW} {res : τ' ⊕ String} (hK : K.Ok) (hl0 : K.l.stackTraces = false) (hX : xEx K.A K.s K.s.heap) (hf : t + 1 ≤ K.R.cells ∧ u + 6 ≤ K.R.slots) (hM' : a_okM M' n) (hrm : M'.2.2.2.2.1 + 1 ≤ K.R.frames ∧ 8 + (M'.2.2.1 + 11) + M'.2.2.2.2.2 ≤ K.R.locals) (hk : a_okS K.M.1.cls M' idx) (hd : decode K.M.2.1 pc = .ok (.invokestatic idx, 3)) (hs : Xp rv' M' av w res) (hn : av.length = n) (hst : S0 = av.reverse ++ S) (hroom : (S.map fun v => v.category).sum ≤ 8)
    (kk : ∀ r, res = .inl r → Gw K (t + 1) (u + 6) (pc + 3) L ((rv' r).toList ++ S) w) (kx : ∀ E, res = .inr E → yX K (t + 1) (u + 6) pc L S w E) : Gw K t u pc L S0 w := by
  intro H locs ls hP hD hS hl
  have hC := hK.1
  have hts := hC.2.2.2.2.2.1
  have hrun := vx_runS (Ts := a_T) (As := av.map (a_v K.ad)) (rest := S.map (a_v K.ad)) (g := F0 K.m pc ls (S0.map (a_v K.ad))) (nL := K.M.2.2.1) (H := H) (e := K.e) (meth := K.meth) (below := K.below) (locs := locs) (cells := t) (slots := u) ⟨hC.1, hC.2.1, hC.2.2.1, hC.2.2.2.2.1, hts⟩ (hs K.l hl0 K.D K.ad K.ca H.size) ⟨x_cb hts hM' hrm hk.1, hts _ hk.2⟩ ⟨x_blind, y_pre (av := av.map (a_v K.ad)) hK hX hP hD hS⟩ rfl (by rw [List.length_map]; exact hn) hl.1 (by show S0.map (a_v K.ad) = _; rw [hst, List.map_append, List.map_reverse]) (lv_room (by rw [a_sum]; exact hroom)) hd hf
  exact y_run hK hD hS hl hrun kk kx
theorem y_callV {τ' : Type} {rv' : τ' → Option Value} {K : gK} {M' : aM} {idx n pc t u c0 r : Nat} {q0 : vw_C} {L : List (Option Value)} {av S S0 : List Value} {w : aW} {res : τ' ⊕ String} (hK : K.Ok) (hl0 : K.l.stackTraces = false) (hX : xEx K.A K.s K.s.heap) (hf : t + 1 ≤ K.R.cells ∧ u + 6 ≤ K.R.slots) (hc0 : a_cl[c0]? = some q0) (hcn : q0.1 = M'.1.cls) (hM' : a_okM M' n) (hrm : M'.2.2.2.2.1 + 1 ≤ K.R.frames ∧ 8 + (M'.2.2.1 + 11) + M'.2.2.2.2.2 ≤ K.R.locals) (hk : a_okV K.M.1.cls M' idx) (hd : decode K.M.2.1 pc = .ok (.invokevirtual idx, 3)) (hO : a_isO c0 w r) (hs : Xp rv' M' (.ref r :: av) w res) (hn : av.length = n) (hst : S0 = av.reverse ++ .ref r :: S) (hroom : (S.map fun v => v.category).sum ≤ 8)
    (kk : ∀ x, res = .inl x → Gw K (t + 1) (u + 6) (pc + 3) L ((rv' x).toList ++ S) w) (kx : ∀ E, res = .inr E → yX K (t + 1) (u + 6) pc L S w E) : Gw K t u pc L S0 w := by
  intro H locs ls hP hD hS hl
  have hC := hK.1
  obtain ⟨hb1, fs, hb2⟩ := hO
  have hts := hC.2.2.2.2.2.1
  have he : (a_w K.ad K.ca w)[r]? = some (K.ad r, .inr (c0, fs.map (a_v K.ad))) := by rw [a_w_get hb1, hb2]; rfl
  have hrecv := va_recv hC.2.2.2.2.2.2.2.2 hP hc0 he
  rw [hcn] at hrecv
  have hrun := vx_runV (Ts := a_T) (b := K.ad r) (As := av.map (a_v K.ad)) (rest := S.map (a_v K.ad)) (g := F0 K.m pc ls (S0.map (a_v K.ad))) (nL := K.M.2.2.1) (H := H) (e := K.e) (meth := K.meth) (below := K.below) (locs := locs) (cells := t) (slots := u) ⟨hC.1, hC.2.1, hC.2.2.1, hC.2.2.2.2.1, hts⟩ (hs K.l hl0 K.D K.ad K.ca H.size) ⟨x_cb hts hM' hrm hk.1, hts _ hk.2.1, hts _ hk.2.2⟩ ⟨x_blind, hrecv, y_pre (av := .ref (K.ad r) :: av.map (a_v K.ad)) hK hX hP hD hS⟩ rfl (by rw [List.length_map]; exact hn) hl.1 (by show S0.map (a_v K.ad) = _; rw [hst, List.map_append, List.map_reverse]; rfl) (lv_room (by rw [a_sum]; exact hroom)) hd hf
  exact y_run hK hD hS hl hrun kk kx
