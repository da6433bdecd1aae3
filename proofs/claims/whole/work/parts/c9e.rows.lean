section GW2
variable {K : gK} {t u : Nat} {pc : Nat} {L : List (Option Value)} {S : List Value} {w : aW}
theorem g_lload (hK : K.Ok) {i : Nat} {x : Int64} (hd : decode K.M.2.1 pc = .ok (.lload i, 2)) (hL : L[i]? = some (some (.long x))) (k : Gw K t u (pc + 2) L (.long x :: S) w) : Gw K t u pc L (S) w := by
  intro H locs ls hP hD hS hl
  exact lv_lload hK.1.1 hK.1.2.1 hd (a_load hl hL) (k H locs ls hP hD hS hl)
theorem g_istore (hK : K.Ok) {i : Nat} {x : Int32} {L' : List (Option Value)} (hd : decode K.M.2.1 pc = .ok (.istore i, 2)) (hn : i < K.M.2.2.1) (hL : a_st1 L i (.int x) = L') (k : Gw K t u (pc + 2) L' S w) : Gw K t u pc L (.int x :: S) w := by
  subst hL
  intro H locs ls hP hD hS hl
  exact lv_istore hK.1.1 hK.1.2.1 hd hl hn rfl (fun ls' hl' => k H locs ls' hP hD hS (a_has_st1 hl'))
theorem g_lstore (hK : K.Ok) {i : Nat} {x : Int64} {L' : List (Option Value)} (hd : decode K.M.2.1 pc = .ok (.lstore i, 2)) (hn : i + 1 < K.M.2.2.1) (hL : a_st2 L i (.long x) = L') (k : Gw K t u (pc + 2) L' S w) : Gw K t u pc L (.long x :: S) w := by
  subst hL
  intro H locs ls hP hD hS hl
  exact lv_lstore hK.1.1 hK.1.2.1 hd hl hn rfl (fun ls' hl' => k H locs ls' hP hD hS (a_has_st2 hl'))
theorem g_lald (hK : K.Ok) {r : Nat} {i : Int32} {a : Nat × (Nat → Int64)} (hd : decode K.M.2.1 pc = .ok (.laload, 1)) (hx : a_la w r = some a) (hi : ¬ (i < 0 ∨ a.1 ≤ i.toNatClampNeg)) (kk : Gw K t u (pc + 1) L (.long (a.2 i.toNatClampNeg) :: S) w) : Gw K t u pc L (.int i :: .ref r :: S) w := by
  intro H locs ls hP hD hS hl
  obtain ⟨h1, h2⟩ := a_la_spec hx
  exact va_lald hK.1.1 hK.1.2.1 hK.1.2.2.2.2.2.2.2.2 hP r 1 (n := a.1) (f := a.2) (by rw [a_w_get h1, h2]; rfl) rfl hi hd (kk H locs ls hP hD hS hl)
theorem g_last (hK : K.Ok) {r : Nat} {i : Int32} {x : Int64} {a : Nat × (Nat → Int64)} (hd : decode K.M.2.1 pc = .ok (.lastore, 1)) (hx : a_la w r = some a) (hi : ¬ (i < 0 ∨ a.1 ≤ i.toNatClampNeg)) (kk : Gw K t u (pc + 1) L S (a_up w r (.inl (1, a.1, .inr (.inl (vp_updL a.2 i.toNatClampNeg x)))))) : Gw K t u pc L (.long x :: .int i :: .ref r :: S) w := by
  intro H locs ls hP hD hS hl
  obtain ⟨h1, h2⟩ := a_la_spec hx
  refine va_last hK.1.1 hK.1.2.1 hK.1.2.2.2.2.2.2.2.2 hP hD hS r 1 (n := a.1) (f := a.2) (by rw [a_w_get h1, h2]; rfl) rfl hi hd (fun H1 locs1 hP1 hD1 hS1 => ?_)
  have hset := a_w_set (ad := K.ad) (ca := K.ca) (w := w) (.inl (1, a.1, .inr (.inl (vp_updL a.2 i.toNatClampNeg x)))) h1
  have hP2 : va_P K.D a_cl (a_w K.ad K.ca (a_up w r (.inl (1, a.1, .inr (.inl (vp_updL a.2 i.toNatClampNeg x)))))) H1 := by rw [← hset]; exact hP1
  exact kk H1 locs1 ls hP2 (a_w_D _ hD) hS1 hl
theorem g_sub {L2 : List (Option Value)} (hL : ∀ (j : Nat) (v : Value), L2[j]? = some (some v) → L[j]? = some (some v)) (k : Gw K t u pc L2 S w) : Gw K t u pc L S w := by
  intro H locs ls hP hD hS hl
  refine k H locs ls hP hD hS ⟨hl.1, hl.2.1, fun z hz => hl.2.2 z ?_⟩
  obtain ⟨j, v, e1, e2⟩ := a_l_out _ _ _ hz
  rw [Nat.zero_add] at e1
  subst e1
  have := a_l_mem (ad := K.ad) L 0 j v (hL j v e2)
  rw [Nat.zero_add] at this
  exact this
theorem g_wide {t' u' : Nat} (h1 : t ≤ t') (h2 : u ≤ u') (k : Gw K t' u' pc L S w) : Gw K t u pc L S w := by
  intro H locs ls hP hD hS hl
  exact W.widen h1 h2 (k H locs ls hP hD hS hl)
def a_okW (M : aM) (hh : List (Nat × Nat × Nat × Nat)) (n : Nat) : Prop := (M.1.cls ≠ "java/lang/invoke/MethodHandle" ∧ M.1.cls ≠ "java/lang/invoke/VarHandle") ∧ (parseMethodDescriptor M.1.desc).map (fun d => d.parameters.length) = some n ∧ Cond.codeWith M.1 M.2.1 M.2.2.1 M.2.2.2.1 hh ∈ a_T ∧ Cond.initialized M.1.cls ∈ a_T
theorem y_back {τ' : Type} {rv' : τ' → Option Value} {q' : τ' × aW} {H : Heap} {locs : List Loc} {ls : Array Slot} {st0 : List Value} (hK : K.Ok)
    (hrun : va_Run K.p K.l K.e K.R K.s K.m K.args K.below K.meth K.c H locs t u 1 6 (F0 K.m pc ls st0) (S.map (a_v K.ad)) (fun st oc t => (oc = .returned ((rv' q'.1).map (a_v K.ad)) ∧ va_P K.D a_cl (a_w K.ad K.ca q'.2) t.heap) ∧ va_F (va_A (a_w K.ad K.ca w) H.size) st t) (va_A (a_w K.ad K.ca w) H.size))
    (hD : va_D K.A (a_w K.ad K.ca w)) (hS : va_S K.A K.s.heap H locs) (hl : lv_has ls K.M.2.2.1 (a_l K.ad 0 L))
    (kk : Gw K (t + 1) (u + 6) (pc + 3) L ((rv' q'.1).toList ++ S) q'.2) : W K.p K.l K.e K.R K.s K.m K.args K.below K.meth K.c H locs t u K.Z (F0 K.m pc ls st0) := by
  intro T hT X
  obtain ⟨v, st₀, tt, T', Lc, h0, X', hL, e1, e2, ⟨⟨hv, hP1⟩, hz, hk⟩, st⟩ := hrun T hT X
  have hv' : v = (rv' q'.1).map (a_v K.ad) := Outcome.returned.inj hv
  subst hv'
  rw [h0] at hz hk
  rw [← e1] at hz hk hP1
  have hgo := kk T'.heap (locs ++ Lc) ls hP1 (a_w_D _ hD) (y_keep hK hD hS hz hk hL) hl
  rw [List.map_append] at hgo
  have h9 : ((rv' q'.1).toList).map (a_v K.ad) = ((rv' q'.1).map (a_v K.ad)).toList := by cases rv' q'.1 <;> rfl
  rw [h9] at hgo
  obtain ⟨t2, a1, b1⟩ := hgo T' rfl X'
  exact ⟨t2, st t2 a1, b1⟩
theorem y_callWS {τ' : Type} {rv' : τ' → Option Value} {M' : aM} {hh : List (Nat × Nat × Nat × Nat)} {idx n : Nat} {av S0 : List Value} {q' : τ' × aW} (hK : K.Ok) (hl0 : K.l.stackTraces = false) (hX : xEx K.A K.s K.s.heap) (hf : t + 1 ≤ K.R.cells ∧ u + 6 ≤ K.R.slots) (hM' : a_okW M' hh n) (hrm : M'.2.2.2.2.1 + 1 ≤ K.R.frames ∧ 8 + (M'.2.2.1 + 11) + M'.2.2.2.2.2 ≤ K.R.locals) (hk : a_okS K.M.1.cls M' idx) (hd : decode K.M.2.1 pc = .ok (.invokestatic idx, 3)) (hs : Yp rv' M' hh av w q') (hn : av.length = n) (hst : S0 = av.reverse ++ S) (hroom : (S.map fun v => v.category).sum ≤ 8)
    (kk : Gw K (t + 1) (u + 6) (pc + 3) L ((rv' q'.1).toList ++ S) q'.2) : Gw K t u pc L S0 w := by
  intro H locs ls hP hD hS hl
  have hC := hK.1
  have hts := hC.2.2.2.2.2.1
  have hcw : vx_CSW K.R K.s K.args K.M.1.cls idx M'.1 M'.2.1 M'.2.2.1 M'.2.2.2.1 hh (Cond.codeWith M'.1 M'.2.1 M'.2.2.1 M'.2.2.2.1 hh :: a_T) (a_RX M') 1 6 n := ⟨⟨rfl, rfl, hrm.1, hrm.2, pay_in hts (fun w hw => by
      rcases List.mem_cons.mp hw with h | h
      · subst h; exact a_good _ hM'.2.2.1
      · exact a_good _ h), List.mem_cons_self⟩, hts _ hM'.2.2.1, hts _ hM'.2.2.2, hM'.1, fun sig h => by
      have h2 := hM'.2.1
      rw [h] at h2
      exact (Option.some.inj h2).symm, hts _ hk.1, hts _ hk.2⟩
  have hrun := vx_runSW (Ts := a_T) (As := av.map (a_v K.ad)) (rest := S.map (a_v K.ad)) (g := F0 K.m pc ls (S0.map (a_v K.ad))) (nL := K.M.2.2.1) (H := H) (e := K.e) (meth := K.meth) (below := K.below) (locs := locs) (cells := t) (slots := u) ⟨hC.1, hC.2.1, hC.2.2.1, hC.2.2.2.2.1, hts⟩ (hs K.l hl0 K.D K.ad K.ca H.size) hcw ⟨x_blind, y_pre (av := av.map (a_v K.ad)) hK hX hP hD hS⟩ rfl (by rw [List.length_map]; exact hn) hl.1 (by show S0.map (a_v K.ad) = _; rw [hst, List.map_append, List.map_reverse]) (lv_room (by rw [a_sum]; exact hroom)) hd hf
  exact y_back hK hrun hD hS hl kk
theorem y_callWV {τ' : Type} {rv' : τ' → Option Value} {M' : aM} {hh : List (Nat × Nat × Nat × Nat)} {idx n c0 r : Nat} {q0 : vw_C} {av S0 : List Value} {q' : τ' × aW} (hK : K.Ok) (hl0 : K.l.stackTraces = false) (hX : xEx K.A K.s K.s.heap) (hf : t + 1 ≤ K.R.cells ∧ u + 6 ≤ K.R.slots) (hc0 : a_cl[c0]? = some q0) (hcn : q0.1 = M'.1.cls) (hM' : a_okW M' hh n) (hrm : M'.2.2.2.2.1 + 1 ≤ K.R.frames ∧ 8 + (M'.2.2.1 + 11) + M'.2.2.2.2.2 ≤ K.R.locals) (hk : a_okV K.M.1.cls M' idx) (hd : decode K.M.2.1 pc = .ok (.invokevirtual idx, 3)) (hO : a_isO c0 w r) (hs : Yp rv' M' hh (.ref r :: av) w q') (hn : av.length = n) (hst : S0 = av.reverse ++ .ref r :: S) (hroom : (S.map fun v => v.category).sum ≤ 8)
    (kk : Gw K (t + 1) (u + 6) (pc + 3) L ((rv' q'.1).toList ++ S) q'.2) : Gw K t u pc L S0 w := by
  intro H locs ls hP hD hS hl
  have hC := hK.1
  obtain ⟨hb1, fs, hb2⟩ := hO
  have hts := hC.2.2.2.2.2.1
  have he : (a_w K.ad K.ca w)[r]? = some (K.ad r, .inr (c0, fs.map (a_v K.ad))) := by rw [a_w_get hb1, hb2]; rfl
  have hrecv := va_recv hC.2.2.2.2.2.2.2.2 hP hc0 he
  rw [hcn] at hrecv
  have hcw : vx_CVW K.R K.s K.args K.M.1.cls M'.1.cls idx M'.1 M'.2.1 M'.2.2.1 M'.2.2.2.1 hh (Cond.codeWith M'.1 M'.2.1 M'.2.2.1 M'.2.2.2.1 hh :: a_T) (a_RX M') 1 6 n := ⟨⟨rfl, rfl, hrm.1, hrm.2, pay_in hts (fun w hw => by
      rcases List.mem_cons.mp hw with h | h
      · subst h; exact a_good _ hM'.2.2.1
      · exact a_good _ h), List.mem_cons_self⟩, hts _ hM'.2.2.1, hts _ hM'.2.2.2, hM'.1, fun sig h => by
      have h2 := hM'.2.1
      rw [h] at h2
      exact (Option.some.inj h2).symm, hts _ hk.1, hts _ hk.2.1, hts _ hk.2.2⟩
  have hrun := vx_runVW (Ts := a_T) (b := K.ad r) (As := av.map (a_v K.ad)) (rest := S.map (a_v K.ad)) (g := F0 K.m pc ls (S0.map (a_v K.ad))) (nL := K.M.2.2.1) (H := H) (e := K.e) (meth := K.meth) (below := K.below) (locs := locs) (cells := t) (slots := u) ⟨hC.1, hC.2.1, hC.2.2.1, hC.2.2.2.2.1, hts⟩ (hs K.l hl0 K.D K.ad K.ca H.size) hcw ⟨x_blind, hrecv, y_pre (av := .ref (K.ad r) :: av.map (a_v K.ad)) hK hX hP hD hS⟩ rfl (by rw [List.length_map]; exact hn) hl.1 (by show S0.map (a_v K.ad) = _; rw [hst, List.map_append, List.map_reverse]; rfl) (lv_room (by rw [a_sum]; exact hroom)) hd hf
  exact y_back hK hrun hD hS hl kk
end GW2
