/-! Methods that may throw: what they want of the machine, their walks, their contracts -/
abbrev sIA : String := "java/lang/IllegalArgumentException"
abbrev sIS : String := "java/lang/IllegalStateException"
abbrev sUO : String := "java/lang/UnsupportedOperationException"
abbrev sNm : List String := ["java/lang/RuntimeException", "java/lang/Exception"]
def a_isX : Cond → Bool
  | .castable _ _ => true
  | .declares _ => true
  | _ => false
def a_Xs : List Cond := lw_tbl.filter a_isX
theorem a_XsT {w : Cond} (h : w ∈ a_Xs) : w.onTables = true := by
  have h2 := (List.mem_filter.mp h).2
  cases w <;> first | rfl | exact absurd h2 (by simp [a_isX])
theorem a_XsW {s U : State} (hW : s.WarmedH U.vm) (h : ∀ w ∈ a_Xs, va_Nw w s) : ∀ w ∈ a_Xs, va_Nw w U := fun w hw => by
  have h2 := (List.mem_filter.mp hw).2
  have h3 := h w hw
  cases w <;> first | exact h3.warmC hW | exact h3.warmD hW | exact absurd h2 (by simp [a_isX])
def xEx (A : Nat → Prop) (U : State) (H : Heap) : Prop := (∀ w ∈ a_Xs, va_Nw w U) ∧ (vx_Zq Bundle.tN "UNASSIGNED_STACK" Bundle.steD A U H ∧ vx_Zq Bundle.tN "SUPPRESSED_SENTINEL" Bundle.listD A U H) ∧ ((∃ a, vk_R RX2 11 "a goat fails" a U) ∧ (∃ a, vk_R RX2 18 "a bull fails" a U) ∧ (∃ a, vk_R RX2 23 "a wolf fails" a U) ∧ (∃ a, vk_R RX3 299 "no such shelf" a U) ∧ (∃ a, vk_R RX3 306 "no row" a U) ∧ ∃ a, vk_R RX3 309 "no such place" a U) ∧ va_Nc sIS sIA U ∧ va_Nc sUO sIA U ∧ va_Nc sUO sIS U
theorem xEx.warm {A : Nat → Prop} {s U : State} {H : Heap} (hW : s.WarmedH U.vm) (h : xEx A s H) : xEx A U H := by
  obtain ⟨h1, ⟨h2, h3⟩, ⟨⟨a1, k1⟩, ⟨a2, k2⟩, ⟨a3, k3⟩, ⟨a4, k4⟩, ⟨a5, k5⟩, ⟨a6, k6⟩⟩, n1, n2, n3⟩ := h
  exact ⟨a_XsW hW h1, ⟨h2.moved hW.alike, h3.moved hW.alike⟩, ⟨⟨a1, k1.warm hW⟩, ⟨a2, k2.warm hW⟩, ⟨a3, k3.warm hW⟩, ⟨a4, k4.warm hW⟩, ⟨a5, k5.warm hW⟩, ⟨a6, k6.warm hW⟩⟩, n1.moved hW.alike, n2.moved hW.alike, n3.moved hW.alike⟩
theorem xEx.same {A : Nat → Prop} {u U : State} {H : Heap} (e : U.vm = u.vm) (h : xEx A u H) : xEx A U H := by
  have al : u.vm.Alike U.vm := by rw [e]; exact Vm.Alike.refl u.vm
  obtain ⟨h1, ⟨h2, h3⟩, ⟨⟨a1, k1⟩, ⟨a2, k2⟩, ⟨a3, k3⟩, ⟨a4, k4⟩, ⟨a5, k5⟩, ⟨a6, k6⟩⟩, n1, n2, n3⟩ := h
  exact ⟨fun w hw => va_tabs (a_XsT hw) e.symm (h1 w hw), ⟨h2.moved al, h3.moved al⟩, ⟨⟨a1, k1.same e⟩, ⟨a2, k2.same e⟩, ⟨a3, k3.same e⟩, ⟨a4, k4.same e⟩, ⟨a5, k5.same e⟩, ⟨a6, k6.same e⟩⟩, n1.moved al, n2.moved al, n3.moved al⟩
theorem xEx.kept {A : Nat → Prop} {U : State} {H H1 : Heap} (h : xEx A U H) (hq : ∀ a : Nat, a < H.size → ¬ A a → H1[a]? = H[a]?) : xEx A U H1 := ⟨h.1, ⟨h.2.1.1.kept hq, h.2.1.2.kept hq⟩, h.2.2⟩
theorem xEx.narrow {A B : Nat → Prop} {U : State} {H : Heap} (h : xEx A U H) (hAB : ∀ q, B q → A q) : xEx B U H := ⟨h.1, ⟨h.2.1.1.narrow hAB, h.2.1.2.narrow hAB⟩, h.2.2⟩
theorem x_hat {args : Array Value} {s : State} {L : List Cond} (hT : ∀ w ∈ a_T, w.before args s = true) (hX : ∀ w ∈ a_Xs, va_Nw w s) (h1 : ∀ w ∈ L, w ∈ lw_tbl) (h2 : L.all (fun w => goodWord w || a_isX w) = true) : ∀ w ∈ L, w.before args s = true := by
  intro w hw
  have h3 := List.all_eq_true.mp h2 w hw
  rw [Bool.or_eq_true] at h3
  rcases h3 with h | h
  · exact hT w (List.mem_filter.mpr ⟨h1 w hw, h⟩)
  · have h4 : w ∈ a_Xs := List.mem_filter.mpr ⟨h1 w hw, h⟩
    exact va_Nw.use (a_XsT h4) (hX w h4)
abbrev gK : Type := aM × Room × Launch × va_G × (Nat → Nat) × (Nat → Nat) × Program × Env × State × MethodId × Array Value × List Frame × Method × Code × (Nat → Prop) × (State → Prop)
abbrev gK.M (K : gK) : aM := K.1
abbrev gK.R (K : gK) : Room := K.2.1
abbrev gK.l (K : gK) : Launch := K.2.2.1
abbrev gK.D (K : gK) : va_G := K.2.2.2.1
abbrev gK.ad (K : gK) : Nat → Nat := K.2.2.2.2.1
abbrev gK.ca (K : gK) : Nat → Nat := K.2.2.2.2.2.1
abbrev gK.p (K : gK) : Program := K.2.2.2.2.2.2.1
abbrev gK.e (K : gK) : Env := K.2.2.2.2.2.2.2.1
abbrev gK.s (K : gK) : State := K.2.2.2.2.2.2.2.2.1
abbrev gK.m (K : gK) : MethodId := K.2.2.2.2.2.2.2.2.2.1
abbrev gK.args (K : gK) : Array Value := K.2.2.2.2.2.2.2.2.2.2.1
abbrev gK.below (K : gK) : List Frame := K.2.2.2.2.2.2.2.2.2.2.2.1
abbrev gK.meth (K : gK) : Method := K.2.2.2.2.2.2.2.2.2.2.2.2.1
abbrev gK.c (K : gK) : Code := K.2.2.2.2.2.2.2.2.2.2.2.2.2.1
abbrev gK.A (K : gK) : Nat → Prop := K.2.2.2.2.2.2.2.2.2.2.2.2.2.2.1
abbrev gK.Z (K : gK) : State → Prop := K.2.2.2.2.2.2.2.2.2.2.2.2.2.2.2
def gK.Ok (K : gK) : Prop := a_Cx K.M K.D K.ca K.p K.s K.m K.args K.meth K.c ∧ ∀ x : Nat, K.s.heap.size ≤ x → K.A x
def Gw (K : gK) (t u : Nat) (pc : Nat) (L : List (Option Value)) (S : List Value) (w : aW) : Prop :=
  ∀ (H : Heap) (locs : List Loc) (ls : Array Slot), va_P K.D a_cl (a_w K.ad K.ca w) H → va_D K.A (a_w K.ad K.ca w) → va_S K.A K.s.heap H locs → lv_has ls K.M.2.2.1 (a_l K.ad 0 L) → W K.p K.l K.e K.R K.s K.m K.args K.below K.meth K.c H locs t u K.Z (F0 K.m pc ls (S.map (a_v K.ad)))
section GW
variable {K : gK} {t u : Nat} {pc : Nat} {L : List (Option Value)} {S : List Value} {w : aW}
theorem g_iconst (hK : K.Ok) {n : Int} {v : Int32} (hd : decode K.M.2.1 pc = .ok (.iconst n, 1)) (hv : Int32.ofInt n = v) (k : Gw K t u (pc + 1) L (.int v :: S) w) : Gw K t u pc L (S) w := by
  intro H locs ls hP hD hS hl
  exact lv_iconst hK.1.1 hK.1.2.1 hd hv (k H locs ls hP hD hS hl)
theorem g_bipush (hK : K.Ok) {n : Int} {v : Int32} (hd : decode K.M.2.1 pc = .ok (.bipush n, 2)) (hv : (Int8.ofInt n).toInt32 = v) (k : Gw K t u (pc + 2) L (.int v :: S) w) : Gw K t u pc L (S) w := by
  intro H locs ls hP hD hS hl
  exact lv_bipush hK.1.1 hK.1.2.1 hd hv (k H locs ls hP hD hS hl)
theorem g_sipush (hK : K.Ok) {n : Int} {v : Int32} (hd : decode K.M.2.1 pc = .ok (.sipush n, 3)) (hv : (Int16.ofInt n).toInt32 = v) (k : Gw K t u (pc + 3) L (.int v :: S) w) : Gw K t u pc L (S) w := by
  intro H locs ls hP hD hS hl
  exact lv_sipush hK.1.1 hK.1.2.1 hd hv (k H locs ls hP hD hS hl)
theorem g_iload_n (hK : K.Ok) {k : Fin 4} {i : Nat} {x : Int32} (hd : decode K.M.2.1 pc = .ok (.iload_n k, 1)) (hi : (k : Nat) = i) (hL : L[i]? = some (some (.int x))) (k : Gw K t u (pc + 1) L (.int x :: S) w) : Gw K t u pc L (S) w := by
  intro H locs ls hP hD hS hl
  exact lv_iload_n hK.1.1 hK.1.2.1 hd hi (a_load hl hL) (k H locs ls hP hD hS hl)
theorem g_iload (hK : K.Ok) {i : Nat} {x : Int32} (hd : decode K.M.2.1 pc = .ok (.iload i, 2)) (hL : L[i]? = some (some (.int x))) (k : Gw K t u (pc + 2) L (.int x :: S) w) : Gw K t u pc L (S) w := by
  intro H locs ls hP hD hS hl
  exact lv_iload hK.1.1 hK.1.2.1 hd (a_load hl hL) (k H locs ls hP hD hS hl)
theorem g_aload_n (hK : K.Ok) {k : Fin 4} {i : Nat} {x : Nat} (hd : decode K.M.2.1 pc = .ok (.aload_n k, 1)) (hi : (k : Nat) = i) (hL : L[i]? = some (some (.ref x))) (k : Gw K t u (pc + 1) L (.ref x :: S) w) : Gw K t u pc L (S) w := by
  intro H locs ls hP hD hS hl
  exact lv_aload_n hK.1.1 hK.1.2.1 hd hi (a_load hl hL) (k H locs ls hP hD hS hl)
theorem g_aload_nN (hK : K.Ok) {k : Fin 4} {i : Nat} (hd : decode K.M.2.1 pc = .ok (.aload_n k, 1)) (hi : (k : Nat) = i) (hL : L[i]? = some (some (.null))) (k : Gw K t u (pc + 1) L (.null :: S) w) : Gw K t u pc L (S) w := by
  intro H locs ls hP hD hS hl
  exact lv_aload_nN hK.1.1 hK.1.2.1 hd hi (a_load hl hL) (k H locs ls hP hD hS hl)
theorem g_istore_n (hK : K.Ok) {i : Nat} {k : Fin 4} {x : Int32} {L' : List (Option Value)} (hd : decode K.M.2.1 pc = .ok (.istore_n k, 1)) (hi : (k : Nat) = i) (hn : i < K.M.2.2.1) (hL : a_st1 L i (.int x) = L') (k : Gw K t u (pc + 1) L' S w) : Gw K t u pc L (.int x :: S) w := by
  subst hL
  intro H locs ls hP hD hS hl
  exact lv_istore_n hK.1.1 hK.1.2.1 hd hi hl hn rfl (fun ls' hl' => k H locs ls' hP hD hS (a_has_st1 hl'))
theorem g_astore_n (hK : K.Ok) {i : Nat} {k : Fin 4} {x : Nat} {L' : List (Option Value)} (hd : decode K.M.2.1 pc = .ok (.astore_n k, 1)) (hi : (k : Nat) = i) (hn : i < K.M.2.2.1) (hL : a_st1 L i (.ref x) = L') (k : Gw K t u (pc + 1) L' S w) : Gw K t u pc L (.ref x :: S) w := by
  subst hL
  intro H locs ls hP hD hS hl
  exact lv_astore_n hK.1.1 hK.1.2.1 hd hi hl hn rfl (fun ls' hl' => k H locs ls' hP hD hS (a_has_st1 hl'))
theorem g_astore_nN (hK : K.Ok) {i : Nat} {k : Fin 4} {L' : List (Option Value)} (hd : decode K.M.2.1 pc = .ok (.astore_n k, 1)) (hi : (k : Nat) = i) (hn : i < K.M.2.2.1) (hL : a_st1 L i (.null) = L') (k : Gw K t u (pc + 1) L' S w) : Gw K t u pc L (.null :: S) w := by
  subst hL
  intro H locs ls hP hD hS hl
  exact lv_astore_nN hK.1.1 hK.1.2.1 hd hi hl hn rfl (fun ls' hl' => k H locs ls' hP hD hS (a_has_st1 hl'))
theorem g_iadd (hK : K.Ok) {x y : Int32} (hd : decode K.M.2.1 pc = .ok (.iadd, 1)) (k : Gw K t u (pc + 1) L (.int (x + y) :: S) w) : Gw K t u pc L (.int y :: .int x :: S) w := by
  intro H locs ls hP hD hS hl
  exact lv_iadd hK.1.1 hK.1.2.1 hd (k H locs ls hP hD hS hl)
theorem g_isub (hK : K.Ok) {x y : Int32} (hd : decode K.M.2.1 pc = .ok (.isub, 1)) (k : Gw K t u (pc + 1) L (.int (x - y) :: S) w) : Gw K t u pc L (.int y :: .int x :: S) w := by
  intro H locs ls hP hD hS hl
  exact lv_isub hK.1.1 hK.1.2.1 hd (k H locs ls hP hD hS hl)
theorem g_i2l (hK : K.Ok) {x : Int32} (hd : decode K.M.2.1 pc = .ok (.i2l, 1)) (k : Gw K t u (pc + 1) L (.long x.toInt64 :: S) w) : Gw K t u pc L (.int x :: S) w := by
  intro H locs ls hP hD hS hl
  exact lv_i2l hK.1.1 hK.1.2.1 hd rfl (k H locs ls hP hD hS hl)
theorem g_dup (hK : K.Ok) {v : Value} (hd : decode K.M.2.1 pc = .ok (.dup, 1)) (hv : v.category = 1) (k : Gw K t u (pc + 1) L (v :: v :: S) w) : Gw K t u pc L (v :: S) w := by
  intro H locs ls hP hD hS hl
  exact lv_dup hK.1.1 hK.1.2.1 hd ((a_cat K.ad v).trans hv) (k H locs ls hP hD hS hl)
theorem g_goto (hK : K.Ok) {off : Int} {tgt : Nat} (hd : decode K.M.2.1 pc = .ok (.goto off, 3)) (ht : (pc : Int) + off = (tgt : Int)) (k : Gw K t u tgt L S w) : Gw K t u pc L S w := by
  intro H locs ls hP hD hS hl
  exact lv_goto hK.1.1 hK.1.2.1 hd ht (k H locs ls hP hD hS hl)
theorem g_ifnonnull (hK : K.Ok) {x : Nat} {off : Int} {tgt : Nat} (hd : decode K.M.2.1 pc = .ok (.ifnonnull off, 3)) (ht : (pc : Int) + off = (tgt : Int)) (k : Gw K t u tgt L S w) : Gw K t u pc L (.ref x :: S) w := by
  intro H locs ls hP hD hS hl
  exact lv_ifnonnull hK.1.1 hK.1.2.1 hd ht (k H locs ls hP hD hS hl)
theorem g_ifnonnullN (hK : K.Ok) {off : Int} (hd : decode K.M.2.1 pc = .ok (.ifnonnull off, 3)) (k : Gw K t u (pc + 3) L S w) : Gw K t u pc L (.null :: S) w := by
  intro H locs ls hP hD hS hl
  exact lv_ifnonnullN hK.1.1 hK.1.2.1 hd (k H locs ls hP hD hS hl)
theorem g_if_eqT (hK : K.Ok) {x : Int32} {off : Int} {tgt : Nat} (hd : decode K.M.2.1 pc = .ok (.ifCond .eq off, 3)) (ht : (pc : Int) + off = (tgt : Int)) (hc : x = 0) (k : Gw K t u tgt L S w) : Gw K t u pc L (.int x :: S) w := by
  intro H locs ls hP hD hS hl
  exact lv_if_eq hK.1.1 hK.1.2.1 hd ht (fun _ => k H locs ls hP hD hS hl) (fun h => absurd hc (by simpa using h))
theorem g_if_eqF (hK : K.Ok) {x : Int32} {off : Int} {tgt : Nat} (hd : decode K.M.2.1 pc = .ok (.ifCond .eq off, 3)) (ht : (pc : Int) + off = (tgt : Int)) (hc : ¬ (x = 0)) (k : Gw K t u (pc + 3) L S w) : Gw K t u pc L (.int x :: S) w := by
  intro H locs ls hP hD hS hl
  exact lv_if_eq hK.1.1 hK.1.2.1 hd ht (fun h => absurd h hc) (fun _ => k H locs ls hP hD hS hl)
theorem g_if_neT (hK : K.Ok) {x : Int32} {off : Int} {tgt : Nat} (hd : decode K.M.2.1 pc = .ok (.ifCond .ne off, 3)) (ht : (pc : Int) + off = (tgt : Int)) (hc : ¬ x = 0) (k : Gw K t u tgt L S w) : Gw K t u pc L (.int x :: S) w := by
  intro H locs ls hP hD hS hl
  exact lv_if_ne hK.1.1 hK.1.2.1 hd ht (fun _ => k H locs ls hP hD hS hl) (fun h => absurd hc (by simpa using h))
theorem g_if_neF (hK : K.Ok) {x : Int32} {off : Int} {tgt : Nat} (hd : decode K.M.2.1 pc = .ok (.ifCond .ne off, 3)) (ht : (pc : Int) + off = (tgt : Int)) (hc : ¬ (¬ x = 0)) (k : Gw K t u (pc + 3) L S w) : Gw K t u pc L (.int x :: S) w := by
  intro H locs ls hP hD hS hl
  exact lv_if_ne hK.1.1 hK.1.2.1 hd ht (fun h => absurd h hc) (fun _ => k H locs ls hP hD hS hl)
theorem g_tableIn (hK : K.Ok) {dflt lo hi : Int} {offs : Array Int} {len : Nat} {x : Int32} {off : Int} {tgt : Nat} (hd : decode K.M.2.1 pc = .ok (.tableswitch dflt lo hi offs, len)) (h1 : ¬ x.toInt < lo) (h2 : ¬ hi < x.toInt) (ho : offs[(x.toInt - lo).toNat]? = some off) (ht : (pc : Int) + off = (tgt : Int)) (k : Gw K t u tgt L S w) : Gw K t u pc L (.int x :: S) w := by
  intro H locs ls hP hD hS hl
  exact lv_tableIn hK.1.1 hK.1.2.1 hd h1 h2 ho ht (k H locs ls hP hD hS hl)
theorem g_getI (hK : K.Ok) {idx c0 k r : Nat} {x : Int32} (hd : decode K.M.2.1 pc = .ok (.getfield idx, 3)) (hf : a_fs K.M.1.cls idx c0 k) (hx : gI c0 w r k = some x) (kk : Gw K t u (pc + 3) L (.int x :: S) w) : Gw K t u pc L (.ref r :: S) w := by
  intro H locs ls hP hD hS hl
  obtain ⟨h1, fs, h2, h3⟩ := a_fld_spec (gI_spec hx)
  obtain ⟨C, T, N, f1, f2, f3, f4⟩ := hf
  refine va_get (Ts := a_T) (v := .int x) hK.1.1 hK.1.2.1 hK.1.2.2.2.2.2.1 f2 hK.1.2.2.2.2.1 hK.1.2.2.2.2.2.2.2.2 hP r (fs := fs.map (a_v K.ad)) ?_ f1 k f3 (hK.1.2.2.2.2.2.1 _ f4) (fun _ h9 => h9) ?_ hd (kk H locs ls hP hD hS hl)
  · rw [a_w_get h1, h2]; rfl
  · rw [List.getElem?_map, h3]; rfl
theorem g_cb {own : String} {s : State} {args : Array Value} {R : Room} {idx' n : Nat} {M' : aM} (hts : ∀ w ∈ a_T, w.before args s = true) (hM' : a_okM M' n) (hrm : M'.2.2.2.2.1 + 1 ≤ R.frames ∧ 8 + (M'.2.2.1 + 11) + M'.2.2.2.2.2 ≤ R.locals) (hl : Cond.methodLink own idx' M'.1 ∈ a_T) : CallB R s args own idx' M'.1 M'.2.1 M'.2.2.1 M'.2.2.2.1 (Cond.code M'.1 M'.2.1 M'.2.2.1 M'.2.2.2.1 :: a_T) (a_R M') 0 0 n := by
  refine ⟨rfl, rfl, hrm.1, hrm.2, ?_, List.mem_cons_self, hts _ hM'.2.2.1, hts _ hM'.2.2.2, hM'.1, fun sig h => ?_, hts _ hl⟩
  · exact pay_in hts (fun w hw => by
      rcases List.mem_cons.mp hw with h | h
      · subst h; exact a_good _ hM'.2.2.1
      · exact a_good _ h)
  · have h2 := hM'.2.1
    rw [h] at h2
    exact (Option.some.inj h2).symm
theorem g_callV (hK : K.Ok) {τ' : Type} {rv' : τ' → Option Value} {M' : aM} {idx n c0 r : Nat} {q0 : vw_C} {av S0 : List Value} {o' : Option (τ' × aW)} {x : τ'} {w1 : aW} (hf : t ≤ K.R.cells ∧ u ≤ K.R.slots) (hc0 : a_cl[c0]? = some q0) (hcn : q0.1 = M'.1.cls) (hM' : a_okM M' n) (hrm : M'.2.2.2.2.1 + 1 ≤ K.R.frames ∧ 8 + (M'.2.2.1 + 11) + M'.2.2.2.2.2 ≤ K.R.locals) (hk : a_okV K.M.1.cls M' idx) (hd : decode K.M.2.1 pc = .ok (.invokevirtual idx, 3)) (hO : a_isO c0 w r) (hs : Sp rv' M' (.ref r :: av) w o') (ho : o' = some (x, w1)) (hn : av.length = n) (hst : S0 = av.reverse ++ .ref r :: S) (hroom : (S.map fun v => v.category).sum ≤ 8)
    (kk : Gw K t u (pc + 3) L ((rv' x).toList ++ S) w1) : Gw K t u pc L S0 w := by
  intro H locs ls hP hD hS hl
  obtain ⟨hC, hA⟩ := hK
  obtain ⟨hb1, fs, hb2⟩ := hO
  have hts := hC.2.2.2.2.2.1
  have he : (a_w K.ad K.ca w)[r]? = some (K.ad r, .inr (c0, fs.map (a_v K.ad))) := by rw [a_w_get hb1, hb2]; rfl
  have hrecv := va_recv hC.2.2.2.2.2.2.2.2 hP hc0 he
  rw [hcn] at hrecv
  have hrun := va_runV (Ts := a_T) (b := K.ad r) (As := av.map (a_v K.ad)) (rest := S.map (a_v K.ad)) (g := F0 K.m pc ls (S0.map (a_v K.ad))) (nL := K.M.2.2.1) (H := H) (e := K.e) (meth := K.meth) (below := K.below) (locs := locs) (cells := t) (slots := u) ⟨hC.1, hC.2.1, hC.2.2.1, hC.2.2.2.2.1, hts⟩ (hs (x, w1) ho K.l K.D K.ad K.ca H.size) ⟨g_cb hts hM' hrm hk.1, hts _ hk.2.1, hts _ hk.2.2⟩ ⟨a_blind (l := K.l), hrecv, a_pre (l := K.l) (av := .ref (K.ad r) :: av.map (a_v K.ad)) hC hP hD⟩ rfl (by rw [List.length_map]; exact hn) hl.1 (by show S0.map (a_v K.ad) = _; rw [hst, List.map_append, List.map_reverse]; rfl) (lv_room (by rw [a_sum]; exact hroom)) hd hf
  refine l_back (rv' := rv') hrun hD hS hA (fun H1 locs1 hP1 hD1 hS1 => ?_)
  have hgo := kk H1 locs1 ls hP1 hD1 hS1 hl
  rw [List.map_append] at hgo
  have h9 : ((rv' x).toList).map (a_v K.ad) = ((rv' x).map (a_v K.ad)).toList := by cases rv' x <;> rfl
  rw [h9] at hgo
  exact hgo
theorem g_callS (hK : K.Ok) {τ' : Type} {rv' : τ' → Option Value} {M' : aM} {idx n : Nat} {av S0 : List Value} {o' : Option (τ' × aW)} {x : τ'} {w1 : aW} (hf : t ≤ K.R.cells ∧ u ≤ K.R.slots) (hM' : a_okM M' n) (hrm : M'.2.2.2.2.1 + 1 ≤ K.R.frames ∧ 8 + (M'.2.2.1 + 11) + M'.2.2.2.2.2 ≤ K.R.locals) (hk : a_okS K.M.1.cls M' idx) (hd : decode K.M.2.1 pc = .ok (.invokestatic idx, 3)) (hs : Sp rv' M' av w o') (ho : o' = some (x, w1)) (hn : av.length = n) (hst : S0 = av.reverse ++ S) (hroom : (S.map fun v => v.category).sum ≤ 8)
    (kk : Gw K t u (pc + 3) L ((rv' x).toList ++ S) w1) : Gw K t u pc L S0 w := by
  intro H locs ls hP hD hS hl
  obtain ⟨hC, hA⟩ := hK
  have hts := hC.2.2.2.2.2.1
  have hrun := va_runS (Ts := a_T) (As := av.map (a_v K.ad)) (rest := S.map (a_v K.ad)) (g := F0 K.m pc ls (S0.map (a_v K.ad))) (nL := K.M.2.2.1) (H := H) (e := K.e) (meth := K.meth) (below := K.below) (locs := locs) (cells := t) (slots := u) ⟨hC.1, hC.2.1, hC.2.2.1, hC.2.2.2.2.1, hts⟩ (hs (x, w1) ho K.l K.D K.ad K.ca H.size) ⟨g_cb hts hM' hrm hk.1, hts _ hk.2⟩ ⟨a_blind (l := K.l), a_pre (l := K.l) (av := av.map (a_v K.ad)) hC hP hD⟩ rfl (by rw [List.length_map]; exact hn) hl.1 (by show S0.map (a_v K.ad) = _; rw [hst, List.map_append, List.map_reverse]) (lv_room (by rw [a_sum]; exact hroom)) hd hf
  refine l_back (rv' := rv') hrun hD hS hA (fun H1 locs1 hP1 hD1 hS1 => ?_)
  have hgo := kk H1 locs1 ls hP1 hD1 hS1 hl
  rw [List.map_append] at hgo
  have h9 : ((rv' x).toList).map (a_v K.ad) = ((rv' x).map (a_v K.ad)).toList := by cases rv' x <;> rfl
  rw [h9] at hgo
  exact hgo
end GW
/-! contracts -/
def a_RX (M : aM) : Room := { frames := M.2.2.2.2.1, cells := 1, slots := 6, locals := M.2.2.2.2.2 }
def xPc (D : va_G) (ad ca : Nat → Nat) (w : aW) (sz : Nat) : State → Prop := fun U => U.heap.size = sz ∧ va_P D a_cl (a_w ad ca w) U.heap ∧ va_K D a_cl (a_tys ca) U ∧ va_D (fun _ => True) (a_w ad ca w) ∧ (∀ w ∈ a_Ns, va_Nw w U) ∧ xEx (va_A (a_w ad ca w) sz) U U.heap
def xQc {τ : Type} (rv : τ → Option Value) (D : va_G) (ad ca : Nat → Nat) (w : aW) (sz : Nat) (res : τ ⊕ String) : Array Value → State → Outcome → State → Prop := fun _ st oc t => ((∃ r, res = .inl r ∧ oc = .returned ((rv r).map (a_v ad))) ∧ va_P D a_cl (a_w ad ca w) t.heap) ∧ va_F (va_A (a_w ad ca w) sz) st t
def xXc {τ : Type} (D : va_G) (ad ca : Nat → Nat) (w : aW) (sz : Nat) (res : τ ⊕ String) : String → State → State → Prop := fun E st t => (res = .inr E ∧ va_P D a_cl (a_w ad ca w) t.heap) ∧ va_F (va_A (a_w ad ca w) sz) st t
/-- returns or throws, the world unchanged; the thrown is one new cell of six slots -/
def Xp {τ : Type} (rv : τ → Option Value) (M : aM) (av : List Value) (w : aW) (res : τ ⊕ String) : Prop := ∀ (l : Launch) (_ : l.stackTraces = false) (D : va_G) (ad ca : Nat → Nat) (sz : Nat),
  vx_Met l M.1 (Cond.code M.1 M.2.1 M.2.2.1 M.2.2.2.1 :: a_T) (a_RX M) (va_Pc (av.map (a_v ad)) (xPc D ad ca w sz)) (xQc rv D ad ca w sz res) (xXc D ad ca w sz res) 1 6 (va_A (a_w ad ca w) sz)
def xEnd {τ : Type} (rv : τ → Option Value) (K : gK) (w : aW) (res : τ ⊕ String) : Prop := K.A = va_A (a_w K.ad K.ca w) K.s.heap.size ∧ K.Z = vx_MQ K.below (xQc rv K.D K.ad K.ca w K.s.heap.size res) (xXc K.D K.ad K.ca w K.s.heap.size res) K.args K.s 1 6 (va_A (a_w K.ad K.ca w) K.s.heap.size) ∧ K.R = a_RX K.M ∧ (∀ x ∈ K.c.exceptionTable.toList, False) ∧ K.l.stackTraces = false ∧ xEx K.A K.s K.s.heap
theorem x_entry {τ : Type} {rv : τ → Option Value} {M : aM} {av : List Value} {w : aW} {res : τ ⊕ String} (L : List (Option Value)) (hy : plainName M.1.cls = true) (hlen : (lg_sl av).length ≤ M.2.2.1) (hL : ∀ ad : Nat → Nat, a_l ad 0 L = lv_args 0 (av.map (a_v ad))) (k : ∀ K : gK, K.M = M → K.Ok → xEnd rv K w res → Gw K 0 0 0 L [] w) : Xp rv M av w res := by
  intro l hl0 D ad ca sz
  refine vx_ofW (cc := M.2.1) (maxL := M.2.2.1) (ret := M.2.2.2.1) hy rfl ?_
  intro p e s m args below meth c s₁ B hml htab hv
  obtain ⟨rfl, hsz, hP, hK, hD0, hN, hX⟩ := hv
  have hts : ∀ w ∈ (Cond.code M.1 M.2.1 M.2.2.1 M.2.2.2.1 :: a_T), w.before (av.map (a_v ad)).toArray s = true := atoms_spec (ws := Cond.code M.1 M.2.1 M.2.2.1 M.2.2.2.1 :: a_T) B.pre
  subst hsz
  have hC : a_Cx M D ca p s m (av.map (a_v ad)).toArray meth c := ⟨B.exec, B.bytes, hml, B.returns, findClass_of_methodNamed B.named, fun w hw => hts w (List.mem_cons_of_mem _ hw), hN, B.notSynchronized, hK⟩
  have hA : ∀ x : Nat, s.heap.size ≤ x → va_A (a_w ad ca w) s.heap.size x := fun x h => Or.inr h
  have hlen2 : (lg_sl (av.map (a_v ad))).length ≤ M.2.2.1 := by
    have : ∀ vs : List Value, (lg_sl (vs.map (a_v ad))).length = (lg_sl vs).length := by
      intro vs
      induction vs with
      | nil => rfl
      | cons v t ih =>
        simp only [List.map_cons, lg_sl, List.flatMap_cons, List.length_append] at ih ⊢
        rw [ih, a_cat]
        by_cases h2 : v.category = 2 <;> simp [h2]
    rw [this]; exact hlen
  have hl := lv_entry (av.map (a_v ad)) hlen2
  rw [← hL ad] at hl
  rw [lg_entry_eq]
  exact k (M, a_RX M, l, D, ad, ca, p, e, s, m, (av.map (a_v ad)).toArray, below, meth, c, va_A (a_w ad ca w) s.heap.size, vx_MQ below (xQc rv D ad ca w s.heap.size res) (xXc D ad ca w s.heap.size res) (av.map (a_v ad)).toArray s 1 6 (va_A (a_w ad ca w) s.heap.size)) rfl ⟨hC, hA⟩ ⟨rfl, rfl, rfl, htab, hl0, hX⟩ s.heap [] _ hP hD0.self va_S.rf hl
theorem x_vret {K : gK} {w : aW} {pc : Nat} {L : List (Option Value)} (hK : K.Ok) (hE : xEnd rvV K w (.inl ())) (hd : decode K.M.2.1 pc = .ok (.return_, 1)) (hr : K.M.2.2.2.1 = none) : Gw K 0 0 pc L [] w := by
  obtain ⟨hA, hZ, hR, htab, hl0, hX⟩ := hE
  intro H locs ls hP hD hS hl
  rw [hZ]
  rw [hA] at hS
  refine W.widen (k := 1) (n := 6) (by decide) (by decide) (vx_ret ?_)
  exact W.vret hK.1.1 hK.1.2.1 (hK.1.2.2.2.1.trans hr) (fun t ht hW => ⟨⟨⟨(), rfl, rfl⟩, by rw [ht]; exact hP⟩, hS.F ht⟩) hS.2.2 hd hK.1.2.2.2.2.2.2.2.1
theorem x_lret {K : gK} {w : aW} {pc : Nat} {L : List (Option Value)} {x : Int64} (hK : K.Ok) (hE : xEnd rvL K w (.inl x)) (hd : decode K.M.2.1 pc = .ok (.lreturn, 1)) (hr : K.M.2.2.2.1 = some .long) : Gw K 0 0 pc L [.long x] w := by
  obtain ⟨hA, hZ, hR, htab, hl0, hX⟩ := hE
  intro H locs ls hP hD hS hl
  rw [hZ]
  rw [hA] at hS
  refine W.widen (k := 1) (n := 6) (by decide) (by decide) (vx_ret ?_)
  exact W.lret hK.1.1 hK.1.2.1 (hK.1.2.2.2.1.trans hr) (fun t ht hW => ⟨⟨⟨x, rfl, rfl⟩, by rw [ht]; exact hP⟩, hS.F ht⟩) hS.2.2 hd hK.1.2.2.2.2.2.2.2.1
theorem x_hx {τ : Type} {D : va_G} {ad ca : Nat → Nat} {w : aW} {s : State} {E : String} {H : Heap} {locs : List Loc} (hP : va_P D a_cl (a_w ad ca w) H) (hS : va_S (va_A (a_w ad ca w) s.heap.size) s.heap H locs) (t : State) (h1 : H.size ≤ t.heap.size) (h2 : ∀ q : Nat, q < H.size → t.heap[q]? = H[q]?) : xXc (τ := τ) D ad ca w s.heap.size (.inr E) E s t :=
  ⟨⟨rfl, hP.kept (fun k x hx => h2 x.1 ((hP k x hx).lt))⟩, ⟨Nat.le_trans hS.1 h1, fun q h3 h4 => (h2 q (Nat.lt_of_lt_of_le h3 hS.1)).trans (hS.2.1 q h3 h4)⟩⟩
theorem x_throwS {τ : Type} {rv : τ → Option Value} {K : gK} {w : aW} {pc : Nat} {L : List (Option Value)} {cls text : String} {ik is ic : Nat} (hK : K.Ok) (hE : xEnd rv K w (.inr cls)) (hcls : Bundle.fit cls = true) (hk : Cond.classLink K.M.1.cls ik cls ∈ a_T) (hini : Cond.initialized cls ∈ a_T) (hstr : ∃ a, vk_R K.M.1.cls is text a K.s) (h1 : ∀ w ∈ vx_atS K.M.1.cls ic cls sNm, w ∈ lw_tbl) (h2 : (vx_atS K.M.1.cls ic cls sNm).all (fun w => goodWord w || a_isX w) = true) (h3 : ∀ w ∈ Cond.classLink K.M.1.cls ik cls :: Cond.initialized cls :: vx_atS K.M.1.cls ic cls sNm, vx_ot w = true)
    (hfr : 5 < K.M.2.2.2.2.1) (hlo : 82 ≤ K.M.2.2.2.2.2)
    (d0 : decode K.M.2.1 pc = .ok (.new ik, 3)) (d3 : decode K.M.2.1 (pc + 3) = .ok (.dup, 1)) (d4 : decode K.M.2.1 (pc + 4) = .ok (.ldc is, 2)) (d6 : decode K.M.2.1 (pc + 6) = .ok (.invokespecial ic, 3)) (d9 : decode K.M.2.1 (pc + 9) = .ok (.athrow, 1)) : Gw K 0 0 pc L [] w := by
  obtain ⟨hA, hZ, hR, htab, hl0, hX⟩ := hE
  intro H locs ls hP hD hS hl
  obtain ⟨sa, hsa⟩ := hstr
  have hts := hK.1.2.2.2.2.2.1
  have hS' := hS
  rw [hZ]
  rw [hA] at hS'
  exact vx_throwS (sa := sa) (A := K.A) (names := sNm) hK.1.1 hK.1.2.1 hl0 hK.1.2.2.2.2.1 hcls (by decide +kernel) (hts _ hk) (hts _ hini) hsa (x_hat hts hX.1 h1 h2) h3 hX.2.1.1 hX.2.1.2 hS (hl.1.trans hK.1.2.2.1.symm) d0 d3 d4 d6 d9 (fun x hx => (htab x hx).elim) (by rw [hR]; exact hfr) (by rw [hR]; exact hlo) (by rw [hR]; exact Nat.le_refl 1) (by rw [hR]; exact Nat.le_refl 6) hK.1.2.2.2.2.2.2.2.1 (fun t _ q1 q2 => x_hx hP hS' t q1 q2) hS'.2.2 (by decide) (by decide)
theorem x_throwSW {τ : Type} {rv : τ → Option Value} {K : gK} {w : aW} {pc : Nat} {L : List (Option Value)} {cls text : String} {ik is ic : Nat} (hK : K.Ok) (hE : xEnd rv K w (.inr cls)) (hcls : Bundle.fit cls = true) (hk : Cond.classLink K.M.1.cls ik cls ∈ a_T) (hini : Cond.initialized cls ∈ a_T) (hstr : ∃ a, vk_R K.M.1.cls is text a K.s) (h1 : ∀ w ∈ vx_atS K.M.1.cls ic cls sNm, w ∈ lw_tbl) (h2 : (vx_atS K.M.1.cls ic cls sNm).all (fun w => goodWord w || a_isX w) = true) (h3 : ∀ w ∈ Cond.classLink K.M.1.cls ik cls :: Cond.initialized cls :: vx_atS K.M.1.cls ic cls sNm, vx_ot w = true)
    (hfr : 5 < K.M.2.2.2.2.1) (hlo : 82 ≤ K.M.2.2.2.2.2)
    (d0 : decode K.M.2.1 pc = .ok (.new ik, 3)) (d3 : decode K.M.2.1 (pc + 3) = .ok (.dup, 1)) (d4 : decode K.M.2.1 (pc + 4) = .ok (.ldc_w is, 3)) (d6 : decode K.M.2.1 (pc + 7) = .ok (.invokespecial ic, 3)) (d9 : decode K.M.2.1 (pc + 10) = .ok (.athrow, 1)) : Gw K 0 0 pc L [] w := by
  obtain ⟨hA, hZ, hR, htab, hl0, hX⟩ := hE
  intro H locs ls hP hD hS hl
  obtain ⟨sa, hsa⟩ := hstr
  have hts := hK.1.2.2.2.2.2.1
  have hS' := hS
  rw [hZ]
  rw [hA] at hS'
  exact vx_throwSW (sa := sa) (A := K.A) (names := sNm) hK.1.1 hK.1.2.1 hl0 hK.1.2.2.2.2.1 hcls (by decide +kernel) (hts _ hk) (hts _ hini) hsa (x_hat hts hX.1 h1 h2) h3 hX.2.1.1 hX.2.1.2 hS (hl.1.trans hK.1.2.2.1.symm) d0 d3 d4 d6 d9 (fun x hx => (htab x hx).elim) (by rw [hR]; exact hfr) (by rw [hR]; exact hlo) (by rw [hR]; exact Nat.le_refl 1) (by rw [hR]; exact Nat.le_refl 6) hK.1.2.2.2.2.2.2.2.1 (fun t _ q1 q2 => x_hx hP hS' t q1 q2) hS'.2.2 (by decide) (by decide)
