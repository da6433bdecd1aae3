/-! making objects, calling their constructors -/
theorem h_join {D : va_G} {cl : List vw_C} {A : Nat → Prop} {pre ws1 : va_W} {x : Nat × va_E} {H H1 : Heap} (hP : va_P D cl (pre ++ [x]) H) (hD : va_D A (pre ++ [x])) (hA : ∀ q, H.size ≤ q → A q) (hk : ∀ q : Nat, q < H.size → ¬ va_A [x] H.size q → H1[q]? = H[q]?) (hP1 : va_P D cl ws1 H1) (hD1 : va_D (va_A [x] H.size) ws1) : va_P D cl (pre ++ ws1) H1 ∧ va_D A (pre ++ ws1) := by
  have hin : ∀ (k : Nat) (q : Nat × va_E), pre[k]? = some q → (pre ++ [x])[k]? = some q := fun k q h => by
    rw [List.getElem?_append_left (List.getElem?_eq_some_iff.mp h).1]; exact h
  have hx : (pre ++ [x])[pre.length]? = some x := by rw [List.getElem?_append_right (Nat.le_refl _), Nat.sub_self]; rfl
  have hout : ∀ (k : Nat) (q : Nat × va_E), pre[k]? = some q → q.1 < H.size ∧ ¬ va_A [x] H.size q.1 := fun k q h => by
    have h1 := (hP k q (hin k q h)).lt
    refine ⟨h1, fun h2 => ?_⟩
    rcases h2 with ⟨j, e, h2⟩ | h2
    · have h3 : j < 1 := (List.getElem?_eq_some_iff.mp h2).1
      obtain rfl : j = 0 := by omega
      have h4 : x = (q.1, e) := Option.some.inj h2
      have h5 := hD.1 k pre.length q x (hin k q h) hx (by rw [h4])
      have h6 := (List.getElem?_eq_some_iff.mp h).1
      omega
    · omega
  have hAx : ∀ q, va_A [x] H.size q → A q := fun q h => by
    rcases h with ⟨j, e, h⟩ | h
    · have h3 : j < 1 := (List.getElem?_eq_some_iff.mp h).1
      obtain rfl : j = 0 := by omega
      have h4 : x = (q, e) := Option.some.inj h
      have h5 := hD.2 _ _ hx
      rw [h4] at h5
      exact h5
    · exact hA q h
  refine ⟨va_P.app (fun k q h => (hP k q (hin k q h)).kept (hk q.1 (hout k q h).1 (hout k q h).2)) hP1, va_D.app ⟨fun i j p q hi hj e => hD.1 i j p q (hin i p hi) (hin j q hj) e, fun k q h => hD.2 k q (hin k q h)⟩ (hD1.weaken (fun k q _ h => hAx q.1 h)) (fun i j p q hi hj e => ?_)⟩
  exact (hout i p hi).2 (by rw [e]; exact hD1.2 j q hj)
section HN
variable {K : gK} {t u : Nat} {pc : Nat} {Lr : List (Nat × Value)} {S : List Value} {ws : va_W}
theorem h_new {C : String} {T : u_T} {N ci idx : Nat} {fs : List Value} (hK : K.Ok) (hc : a_cl[ci]? = some (C, T, N)) (hin : ∀ w ∈ u_ws C T N, w ∈ a_T) (ty : Nat → FieldType) (hty : ∀ k, k < N → parseFieldDescriptor (T k).2.2.1 = some (ty k)) (hcl : Cond.classLink K.M.1.cls idx C ∈ a_T) (hinst : Cond.instantiable C N ∈ a_T) (hini : Cond.initialized C ∈ a_T) (hfs : ∀ j, j < N → defaultValue (ty j) = vp_V fs j) (hcc : t + 1 ≤ K.R.cells) (hs : u + N ≤ K.R.slots) (hd : decode K.M.2.1 pc = .ok (.new idx, 3)) (kk : ∀ q : Nat, Hw K (t + 1) (u + N) (pc + 3) Lr (.ref q :: S) (ws ++ [(q, .inr (ci, fs))])) : Hw K t u pc Lr S ws := by
  intro H locs ls hP hD hS hl
  have hts := hK.1.2.2.2.2.2.1
  exact va_new hK.1.1 hK.1.2.1 hts hin ty hty hK.1.2.2.2.2.1 (hts _ hcl) (hts _ hinst) (hts _ hini) hK.1.2.2.2.2.2.2.2.2 hP hD hS hK.2 hc hfs hcc hs hd (fun q H1 hP1 hD1 hS1 => kk q H1 locs ls hP1 hD1 hS1 hl)
theorem h_cb {own : String} {s : State} {args : Array Value} {R : Room} {idx' mc ms : Nat} {M' : aM} (hts : ∀ w ∈ a_T, w.before args s = true) (hM' : a_okM M' 0) (hrm : M'.2.2.2.2.1 + 1 ≤ R.frames ∧ 8 + (M'.2.2.1 + 11) + M'.2.2.2.2.2 ≤ R.locals) (hl : Cond.methodLink own idx' M'.1 ∈ a_T) : CallB R s args own idx' M'.1 M'.2.1 M'.2.2.1 M'.2.2.2.1 (Cond.code M'.1 M'.2.1 M'.2.2.1 M'.2.2.2.1 :: a_T) (kR M' mc ms) mc ms 0 := by
  refine ⟨rfl, rfl, hrm.1, hrm.2, ?_, List.mem_cons_self, hts _ hM'.2.2.1, hts _ hM'.2.2.2, hM'.1, fun sig h => ?_, hts _ hl⟩
  · exact pay_in hts (fun w hw => by
      rcases List.mem_cons.mp hw with h | h
      · subst h; exact a_good _ hM'.2.2.1
      · exact a_good _ h)
  · have h2 := hM'.2.1
    rw [h] at h2
    exact (Option.some.inj h2).symm
theorem h_callK {M' : aM} {idx ci mc ms q : Nat} {fs : List Value} {post : (Nat → Nat) → Nat → va_W → Prop} {pre : va_W} (hK : K.Ok) (hAO : va_AO "WhoeverNamesIt$Shelf" K.s) (hf : t + mc ≤ K.R.cells ∧ u + ms ≤ K.R.slots) (hM' : a_okM M' 0) (hret : M'.2.2.2.1 = none) (hin : M'.1.name = "<init>") (hrm : M'.2.2.2.2.1 + 1 ≤ K.R.frames ∧ 8 + (M'.2.2.1 + 11) + M'.2.2.2.2.2 ≤ K.R.locals) (hlk : Cond.methodLink K.M.1.cls idx M'.1 ∈ a_T) (him : Cond.instanceMethod M'.1 ∈ a_T) (hd : decode K.M.2.1 pc = .ok (.invokespecial idx, 3)) (hs : Kp M' ci fs mc ms post) (hroom : (S.map fun v => v.category).sum ≤ 8)
    (kk : ∀ ws1, post K.ca q ws1 → Hw K (t + mc) (u + ms) (pc + 3) Lr S (pre ++ ws1)) : Hw K t u pc Lr (.ref q :: S) (pre ++ [(q, .inr (ci, fs))]) := by
  intro H locs ls hP hD hS hl
  have hC := hK.1
  have hts := hC.2.2.2.2.2.1
  obtain ⟨y, bytes, maxL, ret, fr, lo⟩ := M'
  have hret : ret = none := hret
  subst hret
  have hx : (pre ++ [(q, (.inr (ci, fs) : va_E))])[pre.length]? = some (q, .inr (ci, fs)) := by rw [List.getElem?_append_right (Nat.le_refl _), Nat.sub_self]; rfl
  have hPx : va_P K.D a_cl [(q, .inr (ci, fs))] H := fun k z hz => by
    have h3 : k < 1 := (List.getElem?_eq_some_iff.mp hz).1
    obtain rfl : k = 0 := by omega
    cases Option.some.inj hz
    exact hP _ _ hx
  have hDx : va_D (fun _ => True) [(q, (.inr (ci, fs) : va_E))] := ⟨fun i j a b hi hj _ => by
    have h3 : i < 1 := (List.getElem?_eq_some_iff.mp hi).1
    have h4 : j < 1 := (List.getElem?_eq_some_iff.mp hj).1
    omega, fun _ _ _ => trivial⟩
  have hfree : ∀ z, va_A [(q, (.inr (ci, fs) : va_E))] H.size z → K.A z := fun z h => by
    rcases h with ⟨j, e, h⟩ | h
    · have h3 : j < 1 := (List.getElem?_eq_some_iff.mp h).1
      obtain rfl : j = 0 := by omega
      have h4 := congrArg Prod.fst (Option.some.inj h)
      have h5 := hD.2 _ _ hx
      have h6 : q = z := h4
      rw [← h6]
      exact h5
    · exact hK.2 z (Nat.le_trans hS.1 h)
  have hrun := va_runI (Ts := a_T) (b := q) (As := []) (rest := S) (g := F0 K.m pc ls (.ref q :: S)) (nL := K.M.2.2.1) (H := H) (e := K.e) (meth := K.meth) (below := K.below) (locs := locs) (cells := t) (slots := u) ⟨hC.1, hC.2.1, hC.2.2.1, hC.2.2.2.2.1, hts⟩ (hs K.l K.D K.ca q H.size) ⟨h_cb (mc := mc) (ms := ms) hts hM' hrm hlk, hin, hts _ him⟩ ⟨fun a U g mk z => by
      obtain ⟨q0, q1, qP, qK, qD, qN, qX⟩ := z
      exact ⟨q0, q1, qP, va_K.moved (u := U) (U := U.calling g mk a) (Vm.Alike.refl U.vm) qK, qD, fun w hw => va_Nw.same (u := U) (U := U.calling g mk a) (a_NsOn hw) rfl (qN w hw), va_AO.moved (u := U) (U := U.calling g mk a) (Vm.Alike.refl U.vm) qX⟩,
    fun U hU hW => ⟨rfl, by rw [hU], by rw [hU]; exact hPx, va_K.moved hW.alike hC.2.2.2.2.2.2.2.2, hDx, a_NsW hW hC.2.2.2.2.2.2.1, va_AO.moved hW.alike hAO⟩⟩ rfl rfl hl.1 rfl (lv_room hroom) hd hf
  intro T hT X
  obtain ⟨v, st₀, tt, T', Lc, h0, X', hL, e1, e2, ⟨⟨hv, ws1, hp, hP1, hD1⟩, hz, hk⟩, st⟩ := hrun T hT X
  have hv' : v = none := Outcome.returned.inj hv
  subst hv'
  rw [h0] at hz hk
  rw [← e1] at hz hk hP1
  obtain ⟨hP2, hD2⟩ := h_join hP hD (fun z h => hK.2 z (Nat.le_trans hS.1 h)) hk hP1 hD1
  obtain ⟨t2, a1, b1⟩ := kk ws1 hp T'.heap (locs ++ Lc) ls hP2 hD2 ⟨Nat.le_trans hS.1 hz, fun z h1 h2 => by
      rw [hk z (Nat.lt_of_lt_of_le h1 hS.1) (fun y => h2 (hfree z y))]; exact hS.2.1 z h1 h2, fun z hq => by
      rcases List.mem_append.mp hq with h | h
      · exact hS.2.2 z h
      · exact hfree _ (hL z h)⟩ hl T' rfl X'
  exact ⟨t2, st t2 a1, b1⟩
theorem h_anew {n : Int32} {N idx : Nat} (hK : K.Ok) (hAO : va_AO "WhoeverNamesIt$Shelf" K.s) (hcl : Cond.classLink K.M.1.cls idx "WhoeverNamesIt$Shelf" ∈ a_T) (hd : decode K.M.2.1 pc = .ok (.anewarray idx, 3)) (hn : ¬ n < 0) (hN : n.toNatClampNeg = N) (hb : N ≤ 1000) (hcc : t + 1 ≤ K.R.cells) (hs : u + N ≤ K.R.slots) (kk : ∀ q : Nat, Hw K (t + 1) (u + N) (pc + 3) Lr (.ref q :: S) (ws ++ [(q, .inl (K.ca 2, N, .inr (.inr (.inr (.inr (fun _ => none))))))])) : Hw K t u pc Lr (.int n :: S) ws := by
  intro H locs ls hP hD hS hl
  refine va_newq hK.1.1 hK.1.2.1 hK.1.2.2.2.2.1 (hK.1.2.2.2.2.2.1 _ hcl) hAO hK.1.2.2.2.2.2.2.2.2 hP hD hS hK.2 hn hN (by omega) hcc hs hd (fun q cA H1 hK1 hP1 hD1 hS1 => ?_)
  have e : cA = K.ca 2 := by
    have h1 := (hK1.2 3 (cA, .object "WhoeverNamesIt$Shelf") rfl).2
    have h2 := (hK1.2 2 (K.ca 2, .object "WhoeverNamesIt$Shelf") rfl).2
    obtain ⟨_, _, _, _, _, g1⟩ := h1
    obtain ⟨_, _, _, _, _, g2⟩ := h2
    exact Option.some.inj (g1.symm.trans g2)
  subst e
  exact kk q H1 locs ls hP1 hD1 hS1 hl
theorem h_aast {q0 qk a n v ci : Nat} {r : vw_C} {vs : List Value} {f : Nat → Option Nat} {i : Int32} (hK : K.Ok) (hd : decode K.M.2.1 pc = .ok (.aastore, 1)) (hr : r.1 = "WhoeverNamesIt$Shelf") (ha : ws[q0]? = some (a, .inl (K.ca 2, n, .inr (.inr (.inr (.inr f)))))) (hv : ws[qk]? = some (v, .inr (ci, vs))) (hc : a_cl[ci]? = some r) (hin : vp_in i n) (kk : Hw K t u (pc + 1) Lr S (ws.set q0 (a, .inl (K.ca 2, n, .inr (.inr (.inr (.inr (va_up f i.toNatClampNeg (some v))))))))) : Hw K t u pc Lr (.ref v :: .int i :: .ref a :: S) ws := by
  intro H locs ls hP hD hS hl
  exact va_astq hK.1.1 hK.1.2.1 hK.1.2.2.2.2.2.2.2.2 hP hD hS q0 2 qk ci ha (by rw [hr]; rfl) hv hc hin hd (fun H1 locs1 hP1 hD1 hS1 => kk H1 locs1 ls hP1 hD1 hS1 hl)
end HN
