/-! Constructors: worlds as lists that grow, at addresses as they come -/
def Hw (K : gK) (t u : Nat) (pc : Nat) (Lr : List (Nat × Value)) (S : List Value) (ws : va_W) : Prop :=
  ∀ (H : Heap) (locs : List Loc) (ls : Array Slot), va_P K.D a_cl ws H → va_D K.A ws → va_S K.A K.s.heap H locs → lv_has ls K.M.2.2.1 Lr → W K.p K.l K.e K.R K.s K.m K.args K.below K.meth K.c H locs t u K.Z (F0 K.m pc ls S)
/-- a final field of the class itself -/
def a_fF (own : String) (idx c k : Nat) (ty : FieldType) : Prop := ∃ (C : String) (T : u_T) (N : Nat) (ty0 : Nat → FieldType), a_cl[c]? = some (C, T, N) ∧ (∀ w ∈ u_ws C T N, w ∈ a_T) ∧ k < N ∧ Cond.fieldLink own idx (T k).1 (T k).2.1 (T k).2.2.1 ∈ a_T ∧ (∀ k, k < N → parseFieldDescriptor (T k).2.2.1 = some (ty0 k)) ∧ (∀ a, a < N → ∀ b, b < N → a ≠ b → (T a).2.1 ≠ (T b).2.1) ∧ (T k).2.2.2 = true ∧ parseFieldDescriptor (T k).2.2.1 = some ty ∧ (T k).1 = own
section HW
variable {K : gK} {t u : Nat} {pc : Nat} {Lr : List (Nat × Value)} {S : List Value} {ws : va_W}
theorem h_at {ls : Array Slot} {n i : Nat} {v : Value} (hl : lv_has ls n Lr) (h : (i, v) ∈ Lr) : ls[i]? = some (.val v) := hl.2.2 _ h
theorem h_aload {kf : Fin 4} {i x : Nat} (hK : K.Ok) (hd : decode K.M.2.1 pc = .ok (.aload_n kf, 1)) (hi : (kf : Nat) = i) (hm : (i, Value.ref x) ∈ Lr) (k : Hw K t u (pc + 1) Lr (.ref x :: S) ws) : Hw K t u pc Lr S ws := by
  intro H locs ls hP hD hS hl
  exact lv_aload_n hK.1.1 hK.1.2.1 hd hi (h_at hl hm) (k H locs ls hP hD hS hl)
theorem h_iload {kf : Fin 4} {i : Nat} {x : Int32} (hK : K.Ok) (hd : decode K.M.2.1 pc = .ok (.iload_n kf, 1)) (hi : (kf : Nat) = i) (hm : (i, Value.int x) ∈ Lr) (k : Hw K t u (pc + 1) Lr (.int x :: S) ws) : Hw K t u pc Lr S ws := by
  intro H locs ls hP hD hS hl
  exact lv_iload_n hK.1.1 hK.1.2.1 hd hi (h_at hl hm) (k H locs ls hP hD hS hl)
theorem h_iconst {n : Int} {v : Int32} (hK : K.Ok) (hd : decode K.M.2.1 pc = .ok (.iconst n, 1)) (hv : Int32.ofInt n = v) (k : Hw K t u (pc + 1) Lr (.int v :: S) ws) : Hw K t u pc Lr S ws := by
  intro H locs ls hP hD hS hl
  exact lv_iconst hK.1.1 hK.1.2.1 hd hv (k H locs ls hP hD hS hl)
theorem h_bipush {n : Int} {v : Int32} (hK : K.Ok) (hd : decode K.M.2.1 pc = .ok (.bipush n, 2)) (hv : (Int8.ofInt n).toInt32 = v) (k : Hw K t u (pc + 2) Lr (.int v :: S) ws) : Hw K t u pc Lr S ws := by
  intro H locs ls hP hD hS hl
  exact lv_bipush hK.1.1 hK.1.2.1 hd hv (k H locs ls hP hD hS hl)
theorem h_sipush {n : Int} {v : Int32} (hK : K.Ok) (hd : decode K.M.2.1 pc = .ok (.sipush n, 3)) (hv : (Int16.ofInt n).toInt32 = v) (k : Hw K t u (pc + 3) Lr (.int v :: S) ws) : Hw K t u pc Lr S ws := by
  intro H locs ls hP hD hS hl
  exact lv_sipush hK.1.1 hK.1.2.1 hd hv (k H locs ls hP hD hS hl)
theorem h_imul {x y : Int32} (hK : K.Ok) (hd : decode K.M.2.1 pc = .ok (.imul, 1)) (k : Hw K t u (pc + 1) Lr (.int (x * y) :: S) ws) : Hw K t u pc Lr (.int y :: .int x :: S) ws := by
  intro H locs ls hP hD hS hl
  exact lv_imul hK.1.1 hK.1.2.1 hd (k H locs ls hP hD hS hl)
theorem h_dup {v : Value} (hK : K.Ok) (hd : decode K.M.2.1 pc = .ok (.dup, 1)) (hv : v.category = 1) (k : Hw K t u (pc + 1) Lr (v :: v :: S) ws) : Hw K t u pc Lr (v :: S) ws := by
  intro H locs ls hP hD hS hl
  exact lv_dup hK.1.1 hK.1.2.1 hd hv (k H locs ls hP hD hS hl)
theorem h_goto {off : Int} {tgt : Nat} (hK : K.Ok) (hd : decode K.M.2.1 pc = .ok (.goto off, 3)) (ht : (pc : Int) + off = (tgt : Int)) (k : Hw K t u tgt Lr S ws) : Hw K t u pc Lr S ws := by
  intro H locs ls hP hD hS hl
  exact lv_goto hK.1.1 hK.1.2.1 hd ht (k H locs ls hP hD hS hl)
theorem h_geT {x y : Int32} {off : Int} {tgt : Nat} (hK : K.Ok) (hd : decode K.M.2.1 pc = .ok (.if_icmp .ge off, 3)) (ht : (pc : Int) + off = (tgt : Int)) (hc : y ≤ x) (k : Hw K t u tgt Lr S ws) : Hw K t u pc Lr (.int y :: .int x :: S) ws := by
  intro H locs ls hP hD hS hl
  exact lv_icmp_ge hK.1.1 hK.1.2.1 hd ht (fun _ => k H locs ls hP hD hS hl) (fun q => absurd hc q)
theorem h_geF {x y : Int32} {off : Int} {tgt : Nat} (hK : K.Ok) (hd : decode K.M.2.1 pc = .ok (.if_icmp .ge off, 3)) (ht : (pc : Int) + off = (tgt : Int)) (hc : ¬ y ≤ x) (k : Hw K t u (pc + 3) Lr S ws) : Hw K t u pc Lr (.int y :: .int x :: S) ws := by
  intro H locs ls hP hD hS hl
  exact lv_icmp_ge hK.1.1 hK.1.2.1 hd ht (fun q => absurd q hc) (fun _ => k H locs ls hP hD hS hl)
theorem h_istore1 {x : Int32} {Lr' : List (Nat × Value)} (hK : K.Ok) (hd : decode K.M.2.1 pc = .ok (.istore_n 1, 1)) (hn : 1 < K.M.2.2.1) (hL : (1, Value.int x) :: Lr.filter (fun q => !(q.1 == 1) && !(q.1 + 1 == 1 && q.2.category == 2)) = Lr') (k : Hw K t u (pc + 1) Lr' S ws) : Hw K t u pc Lr (.int x :: S) ws := by
  subst hL
  intro H locs ls hP hD hS hl
  exact lv_istore_n hK.1.1 hK.1.2.1 hd rfl hl hn rfl (fun ls' hl' => k H locs ls' hP hD hS hl')
theorem h_astore1 {x : Nat} {Lr' : List (Nat × Value)} {i : Nat} {kf : Fin 4} (hK : K.Ok) (hd : decode K.M.2.1 pc = .ok (.astore_n kf, 1)) (hi : (kf : Nat) = i) (hn : i < K.M.2.2.1) (hL : (i, Value.ref x) :: Lr.filter (fun q => !(q.1 == i) && !(q.1 + 1 == i && q.2.category == 2)) = Lr') (k : Hw K t u (pc + 1) Lr' S ws) : Hw K t u pc Lr (.ref x :: S) ws := by
  subst hL
  intro H locs ls hP hD hS hl
  exact lv_astore_n hK.1.1 hK.1.2.1 hd hi hl hn rfl (fun ls' hl' => k H locs ls' hP hD hS hl')
theorem h_iinc1 {x v : Int32} {h0 : Nat} (hK : K.Ok) (hd : decode K.M.2.1 pc = .ok (.iinc 1 1, 3)) (hn : 1 < K.M.2.2.1) (hv : x + 1 = v) (k : Hw K t u (pc + 3) [(1, .int v), (0, .ref h0)] S ws) : Hw K t u pc [(1, .int x), (0, .ref h0)] S ws := by
  subst hv
  intro H locs ls hP hD hS hl
  exact lv_iinc hK.1.1 hK.1.2.1 hd hl (k := 0) rfl rfl hn rfl (fun ls' hl' => k H locs ls' hP hD hS hl')
theorem h_objInit {idx a : Nat} (hK : K.Ok) (hl1 : Cond.methodLink K.M.1.cls idx objectInit ∈ a_T) (hl2 : Cond.instanceMethod objectInit ∈ a_T) (hl3 : Cond.code objectInit ⟨#[0xb1]⟩ 1 none ∈ a_T) (hd : decode K.M.2.1 pc = .ok (.invokespecial idx, 3)) (hf : 1 ≤ K.R.frames) (hlo : 12 ≤ K.R.locals) (k : Hw K t u (pc + 3) Lr [] ws) : Hw K t u pc Lr [.ref a] ws := by
  intro H locs ls hP hD hS hl
  have hts := hK.1.2.2.2.2.2.1
  refine W.objInit hK.1.1 hK.1.2.1 hK.1.2.2.2.2.1 (hts _ hl1) (hts _ hl2) (hts _ hl3) rfl (hl.1.trans hK.1.2.2.1.symm) rfl hd hf hlo ?_
  exact W.eq (g2 := F0 K.m (pc + 3) ls []) rfl (k H locs ls hP hD hS hl)
/-- ints that stay as they are -/
theorem h_put {idx ci k q0 a : Nat} {v : Value} {ty : FieldType} {fs : List Value} (hK : K.Ok) (hd : decode K.M.2.1 pc = .ok (.putfield idx, 3)) (hf : a_fw K.M.1.cls idx ci k ty) (hn : narrow ty v = v) (hfit : fits ty v = true) (he : ws[q0]? = some (a, .inr (ci, fs))) (hk : k < fs.length) (kk : Hw K t u (pc + 3) Lr S (ws.set q0 (a, .inr (ci, fs.set k v)))) : Hw K t u pc Lr (v :: .ref a :: S) ws := by
  intro H locs ls hP hD hS hl
  obtain ⟨C, T, N, ty0, f1, f2, f3, f4, f5, f6, f7, f8⟩ := hf
  exact va_put (Ts := a_T) hK.1.1 hK.1.2.1 hK.1.2.2.2.2.2.1 f2 ty0 f5 f6 hK.1.2.2.2.2.1 hK.1.2.2.2.2.2.2.2.2 hP hD hS q0 he f1 k f3 (hK.1.2.2.2.2.2.1 _ f4) (fun _ h9 => h9) f7 f8 hn hfit hk hd (fun H1 locs1 hP1 hD1 hS1 => kk H1 locs1 ls hP1 hD1 hS1 hl)
theorem h_putF {idx ci k q0 a : Nat} {v : Value} {ty : FieldType} {fs : List Value} (hK : K.Ok) (hini : K.meth.name = "<init>") (hd : decode K.M.2.1 pc = .ok (.putfield idx, 3)) (hf : a_fF K.M.1.cls idx ci k ty) (hn : narrow ty v = v) (hfit : fits ty v = true) (he : ws[q0]? = some (a, .inr (ci, fs))) (hk : k < fs.length) (kk : Hw K t u (pc + 3) Lr S (ws.set q0 (a, .inr (ci, fs.set k v)))) : Hw K t u pc Lr (v :: .ref a :: S) ws := by
  intro H locs ls hP hD hS hl
  obtain ⟨C, T, N, ty0, f1, f2, f3, f4, f5, f6, f7, f8, f9⟩ := hf
  exact va_putF (Ts := a_T) hK.1.1 hK.1.2.1 hK.1.2.2.2.2.2.1 f2 ty0 f5 f6 hK.1.2.2.2.2.1 hK.1.2.2.2.2.2.2.2.2 hP hD hS q0 he f1 k f3 (hK.1.2.2.2.2.2.1 _ f4) (fun _ h9 => h9) f7 hini f9 f8 hn hfit hk hd (fun H1 locs1 hP1 hD1 hS1 => kk H1 locs1 ls hP1 hD1 hS1 hl)
theorem h_getR {idx ci k q0 a : Nat} {v : Value} {fs : List Value} (hK : K.Ok) (hd : decode K.M.2.1 pc = .ok (.getfield idx, 3)) (hf : a_fs K.M.1.cls idx ci k) (he : ws[q0]? = some (a, .inr (ci, fs))) (hv : fs[k]? = some v) (kk : Hw K t u (pc + 3) Lr (v :: S) ws) : Hw K t u pc Lr (.ref a :: S) ws := by
  intro H locs ls hP hD hS hl
  obtain ⟨C, T, N, f1, f2, f3, f4⟩ := hf
  exact va_get (Ts := a_T) (v := v) hK.1.1 hK.1.2.1 hK.1.2.2.2.2.2.1 f2 hK.1.2.2.2.2.1 hK.1.2.2.2.2.2.2.2.2 hP q0 he f1 k f3 (hK.1.2.2.2.2.2.1 _ f4) (fun _ h9 => h9) hv hd (kk H locs ls hP hD hS hl)
theorem h_iast {q0 a n : Nat} {f : Nat → Int32} {i x : Int32} (hK : K.Ok) (hd : decode K.M.2.1 pc = .ok (.iastore, 1)) (ha : ws[q0]? = some (a, .inl (K.ca 0, n, .inl f))) (hin : vp_in i n) (kk : Hw K t u (pc + 1) Lr S (ws.set q0 (a, .inl (K.ca 0, n, .inl (upd f i.toNatClampNeg x))))) : Hw K t u pc Lr (.int x :: .int i :: .ref a :: S) ws := by
  intro H locs ls hP hD hS hl
  exact va_iast hK.1.1 hK.1.2.1 hK.1.2.2.2.2.2.2.2.2 hP hD hS q0 0 ha rfl hin hd (fun H1 locs1 hP1 hD1 hS1 => kk H1 locs1 ls hP1 hD1 hS1 hl)
theorem h_caI {tys : List (ClassId × FieldType)} {cA : ClassId} {D : va_G} {s : State} {q : Nat} {ca : Nat → Nat} {ty : FieldType} (hq : (a_tys ca)[q]? = some (ca q, ty)) (hty : ty = .int ∨ ty = .long) (h : va_K D a_cl (a_tys ca ++ [(cA, ty)]) s) : cA = ca q := by
  have h1 := (h.2 (a_tys ca).length (cA, ty) (by rw [List.getElem?_append_right (Nat.le_refl _), Nat.sub_self]; rfl)).2
  have hlt : q < (a_tys ca).length := (List.getElem?_eq_some_iff.mp hq).1
  have h2 := (h.2 q (ca q, ty) (by rw [List.getElem?_append_left hlt]; exact hq)).2
  rcases hty with rfl | rfl
  · exact Option.some.inj (Eq.trans (Eq.symm h1) h2)
  · exact Option.some.inj (Eq.trans (Eq.symm h1) h2)
theorem h_newI {n : Int32} {N : Nat} (hK : K.Ok) (harr : Cond.arrayClass .int ∈ a_T) (hd : decode K.M.2.1 pc = .ok (.newarray .int, 2)) (hn : ¬ n < 0) (hN : n.toNatClampNeg = N) (hb : N ≤ 1000) (hc : t + 1 ≤ K.R.cells) (hs : u + N ≤ K.R.slots) (kk : ∀ q : Nat, Hw K (t + 1) (u + N) (pc + 2) Lr (.ref q :: S) (ws ++ [(q, .inl (K.ca 0, N, .inl (fun _ => 0)))])) : Hw K t u pc Lr (.int n :: S) ws := by
  intro H locs ls hP hD hS hl
  refine va_newa (atype := .int) (ty := .int) (a0 := (N, .inl (fun _ => 0))) hK.1.1 hK.1.2.1 (hK.1.2.2.2.2.2.1 _ harr) rfl hK.1.2.2.2.2.2.2.2.2 hP hD hS hK.2 (fun _ => rfl) hn hN (by show N * 4 ≤ 536870912; omega) hc hs hd (fun q cA H1 hK1 hP1 hD1 hS1 => ?_)
  have e := h_caI (tys := []) (q := 0) (ty := .int) rfl (Or.inl rfl) hK1
  subst e
  exact kk q H1 locs ls hP1 hD1 hS1 hl
theorem h_newL {n : Int32} {N : Nat} (hK : K.Ok) (harr : Cond.arrayClass .long ∈ a_T) (hd : decode K.M.2.1 pc = .ok (.newarray .long, 2)) (hn : ¬ n < 0) (hN : n.toNatClampNeg = N) (hb : N ≤ 1000) (hc : t + 1 ≤ K.R.cells) (hs : u + N ≤ K.R.slots) (kk : ∀ q : Nat, Hw K (t + 1) (u + N) (pc + 2) Lr (.ref q :: S) (ws ++ [(q, .inl (K.ca 1, N, .inr (.inl (fun _ => 0))))])) : Hw K t u pc Lr (.int n :: S) ws := by
  intro H locs ls hP hD hS hl
  refine va_newa (atype := .long) (ty := .long) (a0 := (N, .inr (.inl (fun _ => 0)))) hK.1.1 hK.1.2.1 (hK.1.2.2.2.2.2.1 _ harr) rfl hK.1.2.2.2.2.2.2.2.2 hP hD hS hK.2 (fun _ => rfl) hn hN (by show N * 8 ≤ 536870912; omega) hc hs hd (fun q cA H1 hK1 hP1 hD1 hS1 => ?_)
  have e := h_caI (tys := []) (q := 1) (ty := .long) rfl (Or.inr rfl) hK1
  subst e
  exact kk q H1 locs ls hP1 hD1 hS1 hl
theorem h_wide {t' u' : Nat} (h1 : t ≤ t') (h2 : u ≤ u') (k : Hw K t' u' pc Lr S ws) : Hw K t u pc Lr S ws := by
  intro H locs ls hP hD hS hl
  exact W.widen h1 h2 (k H locs ls hP hD hS hl)
theorem h_ws {ws' : va_W} (h : ws = ws') (k : Hw K t u pc Lr S ws') : Hw K t u pc Lr S ws := h ▸ k
/-- an array of ints into a final field of the object at the front -/
theorem h_fld {idx ci k a : Nat} {n : Int32} {N : Nat} {fs : List Value} {rest : va_W} (hK : K.Ok) (hini : K.meth.name = "<init>") (harr : Cond.arrayClass .int ∈ a_T) (d1 : decode K.M.2.1 pc = .ok (.newarray .int, 2)) (d2 : decode K.M.2.1 (pc + 2) = .ok (.putfield idx, 3)) (hf : a_fF K.M.1.cls idx ci k (.array .int)) (hn : ¬ n < 0) (hN : n.toNatClampNeg = N) (hb : N ≤ 1000) (hc : t + 1 ≤ K.R.cells) (hs : u + N ≤ K.R.slots) (hk : k < fs.length) (kk : ∀ q : Nat, Hw K (t + 1) (u + N) (pc + 5) Lr [] ((a, .inr (ci, fs.set k (.ref q))) :: (rest ++ [(q, .inl (K.ca 0, N, .inl (fun _ => 0)))]))) : Hw K t u pc Lr [.int n, .ref a] ((a, .inr (ci, fs)) :: rest) :=
  h_newI hK harr d1 hn hN hb hc hs (fun q => h_putF (q0 := 0) hK hini d2 hf rfl rfl rfl hk (kk q))
theorem h_fldL {idx ci k a : Nat} {n : Int32} {N : Nat} {fs : List Value} {rest : va_W} (hK : K.Ok) (hini : K.meth.name = "<init>") (harr : Cond.arrayClass .long ∈ a_T) (d1 : decode K.M.2.1 pc = .ok (.newarray .long, 2)) (d2 : decode K.M.2.1 (pc + 2) = .ok (.putfield idx, 3)) (hf : a_fF K.M.1.cls idx ci k (.array .long)) (hn : ¬ n < 0) (hN : n.toNatClampNeg = N) (hb : N ≤ 1000) (hc : t + 1 ≤ K.R.cells) (hs : u + N ≤ K.R.slots) (hk : k < fs.length) (kk : ∀ q : Nat, Hw K (t + 1) (u + N) (pc + 5) Lr [] ((a, .inr (ci, fs.set k (.ref q))) :: (rest ++ [(q, .inl (K.ca 1, N, .inr (.inl (fun _ => 0))))]))) : Hw K t u pc Lr [.int n, .ref a] ((a, .inr (ci, fs)) :: rest) :=
  h_newL hK harr d1 hn hN hb hc hs (fun q => h_putF (q0 := 0) hK hini d2 hf rfl rfl rfl hk (kk q))
end HW
