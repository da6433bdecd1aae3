/-! THE LAW from its entry: what the machine has at the start, the prologue, the first world, the loop -/
theorem ws_arr {s : State} {args : Array Value} {ty : FieldType} (h : (Cond.arrayClass ty).before args s = true) : ∃ c : ClassId, ArrOfT s c ty ∧ s.vm.findClass ("[" ++ ty.toString) = some c := by
  obtain ⟨c, k, comp, h1, h2, h3⟩ := Cond.arrayClass_spec h
  exact ⟨c, fun N z => ⟨(fun k h => by cases h), k, h2, comp, h3⟩, h1⟩
theorem ws_K {s : State} {args : Array Value} (hts : ∀ w ∈ lw_tbl, w.before args s = true) : ∃ (D : va_G) (ca : Nat → Nat), va_K D a_cl (a_tys ca) s := by
  have hT := a_tblT hts
  obtain ⟨c0, i0, k0⟩ := u_known (C := RX0) (T := TX0) (N := 13) (n := 13) hT tin_X0 (hts (.instantiable RX0 13) (List.mem_of_getElem? (i := 100) (by decide +kernel)))
  obtain ⟨c1, i1, k1⟩ := u_known (C := RX1) (T := TX1) (N := 6) (n := 6) hT tin_X1 (hts (.instantiable RX1 6) (List.mem_of_getElem? (i := 160) (by decide +kernel)))
  obtain ⟨c2, i2, k2⟩ := u_known (C := RX3) (T := TX3) (N := 7) (n := 7) hT tin_X3 (hts (.instantiable RX3 7) (List.mem_of_getElem? (i := 92) (by decide +kernel)))
  obtain ⟨c3, i3, k3⟩ := u_known (C := RX4) (T := TX4) (N := 37) (n := 37) hT tin_X4 (hts (.instantiable RX4 37) (List.mem_of_getElem? (i := 860) (by decide +kernel)))
  obtain ⟨t0, a0, f0⟩ := ws_arr (hts (.arrayClass .int) (List.mem_of_getElem? (i := 157) (by decide +kernel)))
  obtain ⟨t1, a1, f1⟩ := ws_arr (hts (.arrayClass .long) (List.mem_of_getElem? (i := 977) (by decide +kernel)))
  obtain ⟨comp, t2, kA, g1, -, g2, g3, g4⟩ := Cond.arrayOver_spec (hts (.arrayOver (.object "WhoeverNamesIt$Shelf")) (List.mem_of_getElem? (i := 159) (by decide +kernel)))
  refine ⟨(fun k => if k = 0 then c0 else if k = 1 then c1 else if k = 2 then c2 else c3, fun k => if k = 0 then i0 else if k = 1 then i1 else if k = 2 then i2 else i3), fun k => if k = 0 then t0 else if k = 1 then t1 else t2, ?_, ?_⟩
  · intro k q hq
    match k, hq with
    | 0, hq => cases hq; exact k0
    | 1, hq => cases hq; exact k1
    | 2, hq => cases hq; exact k2
    | 3, hq => cases hq; exact k3
    | k + 4, hq => simp [a_cl] at hq
  · intro k q hq
    match k, hq with
    | 0, hq => cases hq; exact ⟨a0, f0⟩
    | 1, hq => cases hq; exact ⟨a1, f1⟩
    | 2, hq => cases hq; exact ⟨fun N z => ⟨(fun k h => by cases h), kA, g2, comp, g3⟩, kA, comp, g2, g3, g1, g4⟩
    | k + 3, hq => simp [a_tys] at hq
theorem ws_str {s : State} {b : Nat} {own tx : String} {k : Nat} (h1 : (Cond.stringRef own k tx).before #[Value.ref b] s = true) (h2 : (Cond.exactly (.string own k) "java/lang/String").before #[Value.ref b] s = true) : ∃ a, vk_R own k tx a s := by
  obtain ⟨a, c, cell, kk, h3, -⟩ := Cond.exactly_spec h2
  exact ⟨a, vk_R.of h1 h3⟩
theorem ws_X {s : State} {b : Nat} {A : Nat → Prop} (hts : ∀ w ∈ lw_tbl, w.before #[Value.ref b] s = true) (hg : (Jvm.Cond.and given_1 narrow_1).before #[Value.ref b] s = true) (hA : ∀ a : Nat, a < s.heap.size → ¬ A a) : xEx A s s.heap := by
  have hs := flat_of_before _ hg
  have hini : (Cond.initialized Bundle.tN).before #[Value.ref b] s = true := hts _ (List.mem_of_getElem? (i := 85) (by decide +kernel))
  refine ⟨fun w hw => va_Nw.of (a_XsT hw) (hts w (List.mem_filter.mp hw).1), ⟨vx_Zqof (hts _ (List.mem_of_getElem? (i := 772) (by decide +kernel))) hini (hs _ (by decide +kernel)) hA, vx_Zqof (hts _ (List.mem_of_getElem? (i := 774) (by decide +kernel))) hini (hs _ (by decide +kernel)) hA⟩, ⟨?_, ?_, ?_, ?_, ?_, ?_⟩, va_Nc.of (hs _ (by decide +kernel)), va_Nc.of (hs _ (by decide +kernel)), va_Nc.of (hs _ (by decide +kernel))⟩
  · exact ws_str (hts _ (List.mem_of_getElem? (i := 786) (by decide +kernel))) (hs _ (by decide +kernel))
  · exact ws_str (hts _ (List.mem_of_getElem? (i := 822) (by decide +kernel))) (hs _ (by decide +kernel))
  · exact ws_str (hts _ (List.mem_of_getElem? (i := 838) (by decide +kernel))) (hs _ (by decide +kernel))
  · exact ws_str (hts _ (List.mem_of_getElem? (i := 854) (by decide +kernel))) (hs _ (by decide +kernel))
  · exact ws_str (hts _ (List.mem_of_getElem? (i := 856) (by decide +kernel))) (hs _ (by decide +kernel))
  · exact ws_str (hts _ (List.mem_of_getElem? (i := 858) (by decide +kernel))) (hs _ (by decide +kernel))
theorem adL_75 (b x a0 a1 a2 : Nat) (m0 m1 m2 : Nat → Nat) (qs qo qt : Nat) (s e : Nat → Nat) (y : Nat) (q : Nat → Nat) (z : Nat) : adL b x a0 a1 a2 m0 m1 m2 qs qo qt s e y q z 75 = b := if_pos rfl
theorem adL_0 (b x a0 a1 a2 : Nat) (m0 m1 m2 : Nat → Nat) (qs qo qt : Nat) (s e : Nat → Nat) (y : Nat) (q : Nat → Nat) (z : Nat) : adL b x a0 a1 a2 m0 m1 m2 qs qo qt s e y q z 0 = x := rfl
theorem adL_50 (b x a0 a1 a2 : Nat) (m0 m1 m2 : Nat → Nat) (qs qo qt : Nat) (s e : Nat → Nat) (y : Nat) (q : Nat → Nat) (z : Nat) : adL b x a0 a1 a2 m0 m1 m2 qs qo qt s e y q z 50 = y := rfl
theorem adL_74 (b x a0 a1 a2 : Nat) (m0 m1 m2 : Nat → Nat) (qs qo qt : Nat) (s e : Nat → Nat) (y : Nat) (q : Nat → Nat) (z : Nat) : adL b x a0 a1 a2 m0 m1 m2 qs qo qt s e y q z 74 = z := rfl
theorem whole_start {p : Program} {e : Env} {s : State} {m : MethodId} {below : List Frame} {meth : Method} {c : Code} (l : Launch) (hflags : l.flags = flags0) {b L : Nat} {xs : Nat → Int32} (hL : L ≤ 3072) (C0 : lw_At p s m meth c b L xs) : W p l e room_1 s m #[Value.ref b] below meth c s.heap [] 0 0 (lw_Z below #[Value.ref b] s) (entryFrame m ([Value.ref b] : List Value).toArray 8) := by
  obtain ⟨hx, hb, hr, hml, hown, hts, hX, hbl, hlocks, hgv⟩ := id C0
  obtain ⟨D, ca, hKc⟩ := ws_K hts
  have hE : xEx (fun q : Nat => s.heap.size ≤ q) s s.heap := ws_X hts hgv (fun a h => Nat.not_le.mpr h)
  have hst : l.stackTraces = false := by
    simp only [Launch.stackTraces]
    rw [hflags]
    decide +kernel
  have hCx : a_Cx M_law D ca p s m #[Value.ref b] meth c := ⟨hx, hb, hml, hr, hown, a_tblT hts, a_tblN hts, hlocks, hKc⟩
  have hG : gK.Ok ((M_law, room_1, l, D, (fun _ => 0), ca, p, e, s, m, #[Value.ref b], below, meth, c, (fun q : Nat => s.heap.size ≤ q), lw_Z below #[Value.ref b] s) : gK) := ⟨hCx, fun _ q => q⟩
  have key : Hw ((M_law, room_1, l, D, (fun _ => 0), ca, p, e, s, m, #[Value.ref b], below, meth, c, (fun q : Nat => s.heap.size ≤ q), lw_Z below #[Value.ref b] s) : gK) 0 0 0 [(0, .ref b)] [] [] := by
    refine law_pro rfl hG (va_AO.of (hts (.arrayOver (.object "WhoeverNamesIt$Shelf")) (List.mem_of_getElem? (i := 159) (by decide +kernel)))) rfl (fun x y z w3 w4 h3 h4 => ?_)
    obtain ⟨a0, a1, a2, m0, m1, m2, qs, qo, qt, sh, el, rfl⟩ := h3
    obtain ⟨q, rfl⟩ := h4
    intro H locs ls hP hD hS hl
    have hw := world0 ca b x a0 a1 a2 m0 m1 m2 qs qo qt sh el y q z
    have hP2 : va_P D a_cl (a_w (adL b x a0 a1 a2 m0 m1 m2 qs qo qt sh el y q z) ca (Wd wO X00 Y00)) H := by
      rw [← hw]
      exact hP
    have hD2 : va_D (fun q : Nat => s.heap.size ≤ q) (a_w (adL b x a0 a1 a2 m0 m1 m2 qs qo qt sh el y q z) ca (Wd wO X00 Y00)) := by
      rw [← hw]
      exact hD
    have hLK : lK.Ok ((l, D, adL b x a0 a1 a2 m0 m1 m2 qs qo qt sh el y q z, ca, p, e, s, m, b, L, xs, below, meth, c) : lK) := ⟨hCx, hX, hbl, adL_75 b x a0 a1 a2 m0 m1 m2 qs qo qt sh el y q z, hL⟩
    have hEx : lK.Exc ((l, D, adL b x a0 a1 a2 m0 m1 m2 qs qo qt sh el y q z, ca, p, e, s, m, b, L, xs, below, meth, c) : lK) := ⟨hst, hE⟩
    have go := law_loop hLK hEx 513 0 wO X00 Y00 (show L < 6 * 0 + 6 * 513 by omega) (show 6 * 0 ≤ L + 5 by omega) ⟨_, rfl⟩ Inv00
    have hl2 : lv_has ls 8 (a_l (adL b x a0 a1 a2 m0 m1 m2 qs qo qt sh el y q z) 0 (lL (nI (6 * 0)))) := by
      have h1 : a_l (adL b x a0 a1 a2 m0 m1 m2 qs qo qt sh el y q z) 0 (lL (nI (6 * 0))) = [(0, .ref b), (1, .ref x), (2, .ref y), (3, .ref z), (4, .int 0)] := by
        show [(0, Value.ref (adL b x a0 a1 a2 m0 m1 m2 qs qo qt sh el y q z 75)), (1, Value.ref (adL b x a0 a1 a2 m0 m1 m2 qs qo qt sh el y q z 0)), (2, Value.ref (adL b x a0 a1 a2 m0 m1 m2 qs qo qt sh el y q z 50)), (3, Value.ref (adL b x a0 a1 a2 m0 m1 m2 qs qo qt sh el y q z 74)), (4, Value.int (nI 0))] = _
        rw [adL_75, adL_0, adL_50, adL_74, nI_0]
      rw [h1]
      exact lv_sub hl [4, 3, 2, 1, 0] rfl
    exact go H locs ls hP2 hD2 hS hl2
  have hl := lv_entry ([.ref b]) (n := 8) (Nat.le_of_ble_eq_true rfl)
  rw [lg_entry_eq]
  generalize (lg_sl ([.ref b]) ++ List.replicate (8 - (lg_sl ([.ref b])).length) Slot.unset).toArray = ls at hl ⊢
  have hl : lv_has ls 8 [(0, .ref b)] := hl
  have hP : va_P D a_cl [] s.heap := fun k q h => by simp at h
  have hD : va_D (fun q : Nat => s.heap.size ≤ q) [] := ⟨fun i j p q h => by simp at h, fun k q h => by simp at h⟩
  exact key s.heap [] ls hP hD va_S.rf hl
