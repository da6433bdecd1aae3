section HN2
variable {K : gK} {t u : Nat} {pc : Nat} {Lr : List (Nat × Value)} {S : List Value} {ws : va_W}
theorem h_callKN {M' : aM} {idx ci mc ms q : Nat} {fs : List Value} {post : (Nat → Nat) → Nat → va_W → Prop} {pre : va_W} (hK : K.Ok) (hAO : va_AO "WhoeverNamesIt$Shelf" K.s) (hf : t + mc ≤ K.R.cells ∧ u + ms ≤ K.R.slots) (hM' : a_okM M' 0) (hret : M'.2.2.2.1 = none) (hin : M'.1.name = "<init>") (hrm : M'.2.2.2.2.1 + 1 ≤ K.R.frames ∧ 8 + (M'.2.2.1 + 11) + M'.2.2.2.2.2 ≤ K.R.locals) (hlk : ∃ host, Cond.methodLinkNest K.M.1.cls idx M'.1 host ∈ a_Ns) (him : Cond.instanceMethod M'.1 ∈ a_T) (hd : decode K.M.2.1 pc = .ok (.invokespecial idx, 3)) (hs : Kp M' ci fs mc ms post) (hroom : (S.map fun v => v.category).sum ≤ 8)
    (kk : ∀ ws1, post K.ca q ws1 → Hw K (t + mc) (u + ms) (pc + 3) Lr S (pre ++ ws1)) : Hw K t u pc Lr (.ref q :: S) (pre ++ [(q, .inr (ci, fs))]) := by
  intro H locs ls hP hD hS hl
  have hC := hK.1
  have hts := hC.2.2.2.2.2.1
  obtain ⟨y, bytes, maxL, ret, fr, lo⟩ := M'
  have hret : ret = none := hret
  subst hret
  have hx : (pre ++ [(q, (.inr (ci, fs) : va_E))])[pre.length]? = some (q, .inr (ci, fs)) := by rw [List.getElem?_append_right (Nat.le_refl _), Nat.sub_self]; rfl
  have hPx : va_P K.D a_cl [(q, .inr (ci, fs))] H := fun k z hz => by
    have h3 : k < 1 := (List.getElem?_eq_some_iff.mp hz).1
    obtain rfl : k = 0 := by omega
    cases Option.some.inj hz
    exact hP _ _ hx
  have hDx : va_D (fun _ => True) [(q, (.inr (ci, fs) : va_E))] := ⟨fun i j a b hi hj _ => by
    have h3 : i < 1 := (List.getElem?_eq_some_iff.mp hi).1
    have h4 : j < 1 := (List.getElem?_eq_some_iff.mp hj).1
    omega, fun _ _ _ => trivial⟩
  have hfree : ∀ z, va_A [(q, (.inr (ci, fs) : va_E))] H.size z → K.A z := fun z h => by
    rcases h with ⟨j, e, h⟩ | h
    · have h3 : j < 1 := (List.getElem?_eq_some_iff.mp h).1
      obtain rfl : j = 0 := by omega
      have h4 := congrArg Prod.fst (Option.some.inj h)
      have h5 := hD.2 _ _ hx
      have h6 : q = z := h4
      rw [← h6]
      exact h5
    · exact hK.2 z (Nat.le_trans hS.1 h)
  obtain ⟨host, hh⟩ := hlk
  have hcn : va_CN K.R K.s K.args K.M.1.cls idx y host bytes maxL none (Cond.code y bytes maxL none :: a_T) (kR (y, bytes, maxL, none, fr, lo) mc ms) mc ms 0 := ⟨⟨rfl, rfl, hrm.1, hrm.2, pay_in hts (fun w hw => by
      rcases List.mem_cons.mp hw with h | h
      · subst h; exact a_good _ hM'.2.2.1
      · exact a_good _ h), List.mem_cons_self⟩, hts _ hM'.2.2.1, hts _ hM'.2.2.2, hM'.1, fun sig h => by
        have h2 := hM'.2.1
        rw [h] at h2
        exact (Option.some.inj h2).symm, va_Nw.use (a_NsOn hh) (hC.2.2.2.2.2.2.1 _ hh)⟩
  have hrun := va_runIN (Ts := a_T) (b := q) (As := []) (rest := S) (g := F0 K.m pc ls (.ref q :: S)) (nL := K.M.2.2.1) (H := H) (e := K.e) (meth := K.meth) (below := K.below) (locs := locs) (cells := t) (slots := u) ⟨hC.1, hC.2.1, hC.2.2.1, hC.2.2.2.2.1, hts⟩ (hs K.l K.D K.ca q H.size) ⟨hcn, hin, hts _ him⟩ ⟨fun a U g mk z => by
      obtain ⟨q0, q1, qP, qK, qD, qN, qX⟩ := z
      exact ⟨q0, q1, qP, va_K.moved (u := U) (U := U.calling g mk a) (Vm.Alike.refl U.vm) qK, qD, fun w hw => va_Nw.same (u := U) (U := U.calling g mk a) (a_NsOn hw) rfl (qN w hw), va_AO.moved (u := U) (U := U.calling g mk a) (Vm.Alike.refl U.vm) qX⟩,
    fun U hU hW => ⟨rfl, by rw [hU], by rw [hU]; exact hPx, va_K.moved hW.alike hC.2.2.2.2.2.2.2.2, hDx, a_NsW hW hC.2.2.2.2.2.2.1, va_AO.moved hW.alike hAO⟩⟩ rfl rfl hl.1 rfl (lv_room hroom) hd hf
  intro T hT X
  obtain ⟨v, st₀, tt, T', Lc, h0, X', hL, e1, e2, ⟨⟨hv, ws1, hp, hP1, hD1⟩, hz, hk⟩, st⟩ := hrun T hT X
  have hv' : v = none := Outcome.returned.inj hv
  subst hv'
  rw [h0] at hz hk
  rw [← e1] at hz hk hP1
  obtain ⟨hP2, hD2⟩ := h_join hP hD (fun z h => hK.2 z (Nat.le_trans hS.1 h)) hk hP1 hD1
  obtain ⟨t2, a1, b1⟩ := kk ws1 hp T'.heap (locs ++ Lc) ls hP2 hD2 ⟨Nat.le_trans hS.1 hz, fun z h1 h2 => by
      rw [hk z (Nat.lt_of_lt_of_le h1 hS.1) (fun y => h2 (hfree z y))]; exact hS.2.1 z h1 h2, fun z hq => by
      rcases List.mem_append.mp hq with h | h
      · exact hS.2.2 z h
      · exact hfree _ (hL z h)⟩ hl T' rfl X'
  exact ⟨t2, st t2 a1, b1⟩
end HN2
