/-! Worlds of NUMBERED cells: a reference is the number of a cell of the world, 'ad' tells where it lies. Ev rv M pc L S w o: from pc of method M,
with locals L, stack S, world w, the method comes to what o says (if o says anything). Each row follows from one of the kit's. -/
abbrev aC : Type := (Nat × vp_A) ⊕ (Nat × List Value)
abbrev aW : Type := Nat → aC
/-- a method: name, bytes, size of locals, return type, the frames and words of locals that it needs -/
abbrev aM : Type := MethodName × ByteArray × Nat × Option FieldType × Nat × Nat
abbrev a_N : Nat := 75
def a_cl : List vw_C := [(RX0, TX0, 13), (RX1, TX1, 6), (RX3, TX3, 7), (RX4, TX4, 37)]
def a_tys (ca : Nat → Nat) : List (ClassId × FieldType) := [(ca 0, .int), (ca 1, .long), (ca 2, .object "WhoeverNamesIt$Shelf")]
def a_v (ad : Nat → Nat) (v : Value) : Value := match v with
  | .ref k => .ref (ad k)
  | .int x => .int x
  | .long x => .long x
  | .float x => .float x
  | .double x => .double x
  | .null => .null
  | .retAddr x => .retAddr x
def a_A (ad : Nat → Nat) (x : vp_A) : vp_A := match x with
  | (n, .inl f) => (n, .inl f)
  | (n, .inr (.inl f)) => (n, .inr (.inl f))
  | (n, .inr (.inr (.inl f))) => (n, .inr (.inr (.inl f)))
  | (n, .inr (.inr (.inr (.inl f)))) => (n, .inr (.inr (.inr (.inl f))))
  | (n, .inr (.inr (.inr (.inr f)))) => (n, .inr (.inr (.inr (.inr (fun j => (f j).map ad)))))
def a_e (ad ca : Nat → Nat) (c : aC) : va_E := match c with
  | .inl (k, x) => .inl (ca k, a_A ad x)
  | .inr (c, fs) => .inr (c, fs.map (a_v ad))
def a_w (ad ca : Nat → Nat) (w : aW) : va_W := (List.range a_N).map (fun k => (ad k, a_e ad ca (w k)))
def a_up (w : aW) (k : Nat) (c : aC) : aW := fun j => if j = k then c else w j
theorem a_w_get {ad ca : Nat → Nat} {w : aW} {k : Nat} (hk : k < a_N) : (a_w ad ca w)[k]? = some (ad k, a_e ad ca (w k)) := by
  unfold a_w
  rw [List.getElem?_map, List.getElem?_range hk]
  rfl
theorem a_w_out {ad ca : Nat → Nat} {w : aW} {k : Nat} {q : Nat × va_E} (h : (a_w ad ca w)[k]? = some q) : k < a_N ∧ q = (ad k, a_e ad ca (w k)) := by
  have hk : k < a_N := by
    have h1 := (List.getElem?_eq_some_iff.mp h).1
    unfold a_w at h1
    rw [List.length_map, List.length_range] at h1
    exact h1
  rw [a_w_get hk] at h
  exact ⟨hk, (Option.some.inj h).symm⟩
theorem a_w_set {ad ca : Nat → Nat} {w : aW} {k : Nat} (c : aC) (hk : k < a_N) : (a_w ad ca w).set k (ad k, a_e ad ca c) = a_w ad ca (a_up w k c) := by
  apply List.ext_getElem?
  intro i
  rw [List.getElem?_set]
  by_cases hi : i < a_N
  · rw [a_w_get hi]
    by_cases hik : k = i
    · subst hik
      rw [if_pos rfl, if_pos (by unfold a_w; rw [List.length_map, List.length_range]; exact hk), a_w_get hi]
      simp [a_up]
    · rw [if_neg hik, a_w_get hi]
      simp [a_up, Ne.symm hik]
  · have h1 : ∀ w' : aW, (a_w ad ca w')[i]? = none := fun w' => by
      rw [List.getElem?_eq_none]
      unfold a_w
      rw [List.length_map, List.length_range]
      omega
    rw [h1, h1]
    have hik : k ≠ i := by omega
    rw [if_neg hik]
theorem a_w_D {ad ca : Nat → Nat} {w : aW} {A : Nat → Prop} (w' : aW) (h : va_D A (a_w ad ca w)) : va_D A (a_w ad ca w') := by
  refine ⟨fun i j p q hi hj hpq => ?_, fun k q hk => ?_⟩
  · obtain ⟨i1, i2⟩ := a_w_out hi
    obtain ⟨j1, j2⟩ := a_w_out hj
    subst i2; subst j2
    exact h.1 i j _ _ (a_w_get i1) (a_w_get j1) hpq
  · obtain ⟨k1, k2⟩ := a_w_out hk
    subst k2
    exact h.2 k (ad k, a_e ad ca (w k)) (a_w_get k1)
theorem a_w_A {ad ca : Nat → Nat} (w w' : aW) (sz : Nat) : va_A (a_w ad ca w) sz = va_A (a_w ad ca w') sz := by
  funext q
  apply propext
  have key : ∀ w1 w2 : aW, va_A (a_w ad ca w1) sz q → va_A (a_w ad ca w2) sz q := by
    intro w1 w2 h
    rcases h with ⟨k, e, h⟩ | h
    · obtain ⟨h1, h2⟩ := a_w_out h
      exact Or.inl ⟨k, a_e ad ca (w2 k), by rw [a_w_get h1]; cases h2; rfl⟩
    · exact Or.inr h
  exact ⟨key w w', key w' w⟩
def a_l (ad : Nat → Nat) : Nat → List (Option Value) → List (Nat × Value)
  | _, [] => []
  | i, none :: t => a_l ad (i + 1) t
  | i, some v :: t => (i, a_v ad v) :: a_l ad (i + 1) t
theorem a_l_mem {ad : Nat → Nat} : ∀ (L : List (Option Value)) (i j : Nat) (v : Value), L[j]? = some (some v) → (i + j, a_v ad v) ∈ a_l ad i L
  | [], _, _, _, h => by simp at h
  | x :: t, i, 0, v, h => by
    have hx : x = some v := by simpa using h
    subst hx
    exact List.mem_cons_self
  | x :: t, i, j + 1, v, h => by
    have h1 : t[j]? = some (some v) := by simpa using h
    have h2 := a_l_mem (ad := ad) t (i + 1) j v h1
    rw [show i + 1 + j = i + (j + 1) by omega] at h2
    cases x with
    | none => exact h2
    | some u => exact List.mem_cons_of_mem _ h2
theorem a_l_out {ad : Nat → Nat} : ∀ (L : List (Option Value)) (i : Nat) (q : Nat × Value), q ∈ a_l ad i L → ∃ (j : Nat) (v : Value), q = (i + j, a_v ad v) ∧ L[j]? = some (some v)
  | [], _, _, h => by simp [a_l] at h
  | none :: t, i, q, h => by
    obtain ⟨j, v, h1, h2⟩ := a_l_out t (i + 1) q h
    exact ⟨j + 1, v, by rw [h1, show i + 1 + j = i + (j + 1) by omega], by simpa using h2⟩
  | some u :: t, i, q, h => by
    rcases List.mem_cons.mp h with h | h
    · exact ⟨0, u, h, by simp⟩
    · obtain ⟨j, v, h1, h2⟩ := a_l_out t (i + 1) q h
      exact ⟨j + 1, v, by rw [h1, show i + 1 + j = i + (j + 1) by omega], by simpa using h2⟩
theorem a_load {ad : Nat → Nat} {ls : Array Slot} {n : Nat} {L : List (Option Value)} (h : lv_has ls n (a_l ad 0 L)) {i : Nat} {v : Value} (hv : L[i]? = some (some v)) : ls[i]? = some (.val (a_v ad v)) := by
  have h1 := h.2.2 _ (a_l_mem L 0 i v hv)
  simpa using h1
theorem a_cat (ad : Nat → Nat) (v : Value) : (a_v ad v).category = v.category := by cases v <;> rfl
def a_nl (x : Option Value) : Option Value := match x with
  | some (.long _) => none
  | some (.double _) => none
  | x => x
def a_st1 : List (Option Value) → Nat → Value → List (Option Value)
  | [], _, _ => []
  | _ :: t, 0, v => some v :: t
  | x :: t, n + 1, v => (match n with | 0 => a_nl x | _ => x) :: a_st1 t n v
def a_st2 : List (Option Value) → Nat → Value → List (Option Value)
  | [], _, _ => []
  | [_], 0, v => [some v]
  | _ :: _ :: t, 0, v => some v :: none :: t
  | x :: t, n + 1, v => (match n with | 0 => a_nl x | _ => x) :: a_st2 t n v
theorem a_nl_out {x : Option Value} {v : Value} (h : a_nl x = some v) : x = some v ∧ v.category = 1 := by
  cases x with
  | none => simp [a_nl] at h
  | some u => cases u <;> simp_all [a_nl, Value.category] <;> subst h <;> rfl
theorem a_st1_out : ∀ (L : List (Option Value)) (i j : Nat) (v u : Value), (a_st1 L i v)[j]? = some (some u) → (j = i ∧ u = v) ∨ (j ≠ i ∧ L[j]? = some (some u) ∧ (j + 1 = i → u.category = 1))
  | [], i, j, v, u, h => by simp [a_st1] at h
  | x :: t, 0, 0, v, u, h => by
    have : v = u := by simpa [a_st1] using h
    exact Or.inl ⟨rfl, this.symm⟩
  | x :: t, 0, j + 1, v, u, h => by
    have : t[j]? = some (some u) := by simpa [a_st1] using h
    exact Or.inr ⟨by omega, by simpa using this, by omega⟩
  | x :: t, n + 1, 0, v, u, h => by
    cases n with
    | zero =>
      have h1 : a_nl x = some u := by simpa [a_st1] using h
      obtain ⟨h2, h3⟩ := a_nl_out h1
      exact Or.inr ⟨by omega, by simpa using h2, fun _ => h3⟩
    | succ n =>
      have h1 : x = some u := by simpa [a_st1] using h
      exact Or.inr ⟨by omega, by simpa using h1, by omega⟩
  | x :: t, n + 1, j + 1, v, u, h => by
    have h1 : (a_st1 t n v)[j]? = some (some u) := by simpa [a_st1] using h
    rcases a_st1_out t n j v u h1 with ⟨h2, h3⟩ | ⟨h2, h3, h4⟩
    · exact Or.inl ⟨by omega, h3⟩
    · exact Or.inr ⟨by omega, by simpa using h3, fun hh => h4 (by omega)⟩
theorem a_st2_out : ∀ (L : List (Option Value)) (i j : Nat) (v u : Value), (a_st2 L i v)[j]? = some (some u) → (j = i ∧ u = v) ∨ (j ≠ i ∧ j ≠ i + 1 ∧ L[j]? = some (some u) ∧ (j + 1 = i → u.category = 1))
  | [], i, j, v, u, h => by simp [a_st2] at h
  | [x], 0, 0, v, u, h => by
    have : v = u := by simpa [a_st2] using h
    exact Or.inl ⟨rfl, this.symm⟩
  | [x], 0, j + 1, v, u, h => by simp [a_st2] at h
  | x :: y :: t, 0, 0, v, u, h => by
    have : v = u := by simpa [a_st2] using h
    exact Or.inl ⟨rfl, this.symm⟩
  | x :: y :: t, 0, 1, v, u, h => by simp [a_st2] at h
  | x :: y :: t, 0, j + 2, v, u, h => by
    have : t[j]? = some (some u) := by simpa [a_st2] using h
    exact Or.inr ⟨by omega, by omega, by simpa using this, by omega⟩
  | x :: t, n + 1, 0, v, u, h => by
    cases n with
    | zero =>
      have h1 : a_nl x = some u := by cases t <;> simpa [a_st2] using h
      obtain ⟨h2, h3⟩ := a_nl_out h1
      exact Or.inr ⟨by omega, by omega, by simpa using h2, fun _ => h3⟩
    | succ n =>
      have h1 : x = some u := by cases t <;> simpa [a_st2] using h
      exact Or.inr ⟨by omega, by omega, by simpa using h1, by omega⟩
  | x :: t, n + 1, j + 1, v, u, h => by
    have h1 : (a_st2 t n v)[j]? = some (some u) := by cases t <;> simpa [a_st2] using h
    rcases a_st2_out t n j v u h1 with ⟨h2, h3⟩ | ⟨h2, h3, h4, h5⟩
    · exact Or.inl ⟨by omega, h3⟩
    · exact Or.inr ⟨by omega, by omega, by simpa using h4, fun hh => h5 (by omega)⟩
theorem a_has_st1 {ad : Nat → Nat} {ls : Array Slot} {n i : Nat} {v : Value} {L : List (Option Value)} (h : lv_has ls n ((i, a_v ad v) :: (a_l ad 0 L).filter (fun q => !(q.1 == i) && !(q.1 + 1 == i && q.2.category == 2)))) : lv_has ls n (a_l ad 0 (a_st1 L i v)) := by
  refine ⟨h.1, h.2.1, fun q hq => h.2.2 q ?_⟩
  obtain ⟨j, u, h1, h2⟩ := a_l_out _ _ _ hq
  rw [Nat.zero_add] at h1
  rcases a_st1_out L i j v u h2 with ⟨h3, h4⟩ | ⟨h3, h4, h5⟩
  · subst h3; subst h4; subst h1; exact List.mem_cons_self
  · refine List.mem_cons_of_mem _ (List.mem_filter.mpr ⟨?_, ?_⟩)
    · have := a_l_mem (ad := ad) L 0 j u h4
      rw [Nat.zero_add] at this
      rw [h1]; exact this
    · subst h1
      by_cases hji : j + 1 = i
      · simp [h3, hji, a_cat, h5 hji]
      · simp [h3, hji]
theorem a_has_st2 {ad : Nat → Nat} {ls : Array Slot} {n i : Nat} {v : Value} {L : List (Option Value)} (h : lv_has ls n ((i, a_v ad v) :: (a_l ad 0 L).filter (fun q => !(q.1 == i) && (!(q.1 == i + 1) && !(q.1 + 1 == i && q.2.category == 2))))) : lv_has ls n (a_l ad 0 (a_st2 L i v)) := by
  refine ⟨h.1, h.2.1, fun q hq => h.2.2 q ?_⟩
  obtain ⟨j, u, h1, h2⟩ := a_l_out _ _ _ hq
  rw [Nat.zero_add] at h1
  rcases a_st2_out L i j v u h2 with ⟨h3, h4⟩ | ⟨h3, h3b, h4, h5⟩
  · subst h3; subst h4; subst h1; exact List.mem_cons_self
  · refine List.mem_cons_of_mem _ (List.mem_filter.mpr ⟨?_, ?_⟩)
    · have := a_l_mem (ad := ad) L 0 j u h4
      rw [Nat.zero_add] at this
      rw [h1]; exact this
    · subst h1
      by_cases hji : j + 1 = i
      · simp [h3, h3b, hji, a_cat, h5 hji]
      · simp [h3, h3b, hji]
/-! what a walk knows of the machine -/
def a_Cx (M : aM) (D : va_G) (ca : Nat → Nat) (p : Program) (s : State) (m : MethodId) (args : Array Value) (meth : Method) (c : Code) : Prop :=
  p.tables.exec = Jvm.exec ∧ c.code = M.2.1 ∧ c.maxLocals = M.2.2.1 ∧ meth.sig.returnType = M.2.2.2.1 ∧ s.vm.findClass M.1.cls = some m.cls ∧ (∀ w ∈ a_T, w.before args s = true) ∧ (∀ w ∈ a_Ns, va_Nw w s) ∧ meth.locks = false ∧ va_K D a_cl (a_tys ca) s
def a_R (M : aM) : Room := { frames := M.2.2.2.2.1, cells := 0, slots := 0, locals := M.2.2.2.2.2 }
def a_Go (M : aM) (l : Launch) (D : va_G) (ad ca : Nat → Nat) (p : Program) (e : Env) (s : State) (m : MethodId) (args : Array Value) (below : List Frame) (meth : Method) (c : Code) (A : Nat → Prop) (Z : State → Prop) (pc : Nat) (L : List (Option Value)) (S : List Value) (w : aW) : Prop :=
  ∀ (H : Heap) (locs : List Loc) (ls : Array Slot), va_P D a_cl (a_w ad ca w) H → va_D A (a_w ad ca w) → va_S A s.heap H locs → lv_has ls M.2.2.1 (a_l ad 0 L) → W p l e (a_R M) s m args below meth c H locs 0 0 Z (F0 m pc ls (S.map (a_v ad)))
/-- a return instruction that fits -/
def a_ri (i : Instr) (ret : Option FieldType) (v : Option Value) : Prop := match v with
  | none => i = .return_ ∧ ret = none
  | some (.int x) => i = .ireturn ∧ ∃ ty, ret = some ty ∧ narrow ty (.int x) = .int x
  | some (.long _) => i = .lreturn ∧ ret = some .long
  | some (.ref _) => i = .areturn ∧ ∃ n, ret = some (.object n)
  | some .null => i = .areturn ∧ ∃ n, ret = some (.object n)
  | _ => False
def a_Wp {τ : Type} (rv : τ → Option Value) (M : aM) (pc : Nat) (L : List (Option Value)) (S : List Value) (w : aW) (q : τ × aW) : Prop :=
  ∀ (l : Launch) (D : va_G) (ad ca : Nat → Nat) (p : Program) (e : Env) (s : State) (m : MethodId) (args : Array Value) (below : List Frame) (meth : Method) (c : Code) (A : Nat → Prop) (Z : State → Prop), a_Cx M D ca p s m args meth c → (∀ x : Nat, s.heap.size ≤ x → A x) →
    (∀ (pc' : Nat) (L' : List (Option Value)) (i : Instr), decode M.2.1 pc' = .ok (i, 1) → a_ri i M.2.2.2.1 (rv q.1) → a_Go M l D ad ca p e s m args below meth c A Z pc' L' (rv q.1).toList q.2) → a_Go M l D ad ca p e s m args below meth c A Z pc L S w
def Ev {τ : Type} (rv : τ → Option Value) (M : aM) (pc : Nat) (L : List (Option Value)) (S : List Value) (w : aW) (o : Option (τ × aW)) : Prop := ∀ q, o = some q → a_Wp rv M pc L S w q
def rvI : Int32 → Option Value := fun x => some (.int x)
def rvL : Int64 → Option Value := fun x => some (.long x)
def rvV : Unit → Option Value := fun _ => none
def rvR : Option Nat → Option Value := fun x => some (va_rf x)
/-- a method's contract: from a world w, with these arguments, what o says -/
def Sp {τ : Type} (rv : τ → Option Value) (M : aM) (av : List Value) (w : aW) (o : Option (τ × aW)) : Prop := ∀ q, o = some q → ∀ (l : Launch) (D : va_G) (ad ca : Nat → Nat) (sz : Nat),
  Met l M.1 (Cond.code M.1 M.2.1 M.2.2.1 M.2.2.2.1 :: a_T) (a_R M) (va_Pc (av.map (a_v ad)) (fun U => U.heap.size = sz ∧ va_P D a_cl (a_w ad ca w) U.heap ∧ va_K D a_cl (a_tys ca) U ∧ va_D (fun _ => True) (a_w ad ca w) ∧ ∀ w ∈ a_Ns, va_Nw w U))
    (fun _ st oc t => (oc = .returned ((rv q.1).map (a_v ad)) ∧ va_P D a_cl (a_w ad ca q.2) t.heap) ∧ va_F (va_A (a_w ad ca w) sz) st t) 0 0 (va_A (a_w ad ca w) sz)

section EV
variable {τ : Type} {rv : τ → Option Value} {M : aM} {pc : Nat} {L : List (Option Value)} {S : List Value} {w : aW} {o : Option (τ × aW)}
theorem e_iconst {n : Int} {v : Int32} (hd : decode M.2.1 pc = .ok (.iconst n, 1)) (hv : Int32.ofInt n = v) (k : Ev rv M (pc + 1) L (.int v :: S) w o) : Ev rv M pc L (S) w o := by
  intro q hq l D ad ca p e s m args below meth c A Z hC hA hR H locs ls hP hD hS hl
  exact lv_iconst hC.1 hC.2.1 hd hv (k q hq l D ad ca p e s m args below meth c A Z hC hA hR H locs ls hP hD hS hl)
theorem e_bipush {n : Int} {v : Int32} (hd : decode M.2.1 pc = .ok (.bipush n, 2)) (hv : (Int8.ofInt n).toInt32 = v) (k : Ev rv M (pc + 2) L (.int v :: S) w o) : Ev rv M pc L (S) w o := by
  intro q hq l D ad ca p e s m args below meth c A Z hC hA hR H locs ls hP hD hS hl
  exact lv_bipush hC.1 hC.2.1 hd hv (k q hq l D ad ca p e s m args below meth c A Z hC hA hR H locs ls hP hD hS hl)
theorem e_sipush {n : Int} {v : Int32} (hd : decode M.2.1 pc = .ok (.sipush n, 3)) (hv : (Int16.ofInt n).toInt32 = v) (k : Ev rv M (pc + 3) L (.int v :: S) w o) : Ev rv M pc L (S) w o := by
  intro q hq l D ad ca p e s m args below meth c A Z hC hA hR H locs ls hP hD hS hl
  exact lv_sipush hC.1 hC.2.1 hd hv (k q hq l D ad ca p e s m args below meth c A Z hC hA hR H locs ls hP hD hS hl)
theorem e_lconst {n : Fin 2} {v : Int64} (hd : decode M.2.1 pc = .ok (.lconst n, 1)) (hv : Int64.ofNat (n : Nat) = v) (k : Ev rv M (pc + 1) L (.long v :: S) w o) : Ev rv M pc L (S) w o := by
  intro q hq l D ad ca p e s m args below meth c A Z hC hA hR H locs ls hP hD hS hl
  exact lv_lconst hC.1 hC.2.1 hd hv (k q hq l D ad ca p e s m args below meth c A Z hC hA hR H locs ls hP hD hS hl)
theorem e_ldc {i : Nat} {v : Int32} (hd : decode M.2.1 pc = .ok (.ldc i, 2)) (hv : Cond.constant M.1.cls i v ∈ a_T) (k : Ev rv M (pc + 2) L (.int v :: S) w o) : Ev rv M pc L (S) w o := by
  intro q hq l D ad ca p e s m args below meth c A Z hC hA hR H locs ls hP hD hS hl
  exact lv_ldc hC.1 hC.2.1 hC.2.2.2.2.1 (hC.2.2.2.2.2.1 _ hv) hd (k q hq l D ad ca p e s m args below meth c A Z hC hA hR H locs ls hP hD hS hl)
theorem e_ldcw {i : Nat} {v : Int32} (hd : decode M.2.1 pc = .ok (.ldc_w i, 3)) (hv : Cond.constant M.1.cls i v ∈ a_T) (k : Ev rv M (pc + 3) L (.int v :: S) w o) : Ev rv M pc L (S) w o := by
  intro q hq l D ad ca p e s m args below meth c A Z hC hA hR H locs ls hP hD hS hl
  exact lv_ldcw hC.1 hC.2.1 hC.2.2.2.2.1 (hC.2.2.2.2.2.1 _ hv) hd (k q hq l D ad ca p e s m args below meth c A Z hC hA hR H locs ls hP hD hS hl)
theorem e_ldc2 {i : Nat} {v : Int64} (hd : decode M.2.1 pc = .ok (.ldc2_w i, 3)) (hv : Cond.constantLong M.1.cls i v ∈ a_T) (k : Ev rv M (pc + 3) L (.long v :: S) w o) : Ev rv M pc L (S) w o := by
  intro q hq l D ad ca p e s m args below meth c A Z hC hA hR H locs ls hP hD hS hl
  exact lv_ldc2 hC.1 hC.2.1 hC.2.2.2.2.1 (hC.2.2.2.2.2.1 _ hv) hd (k q hq l D ad ca p e s m args below meth c A Z hC hA hR H locs ls hP hD hS hl)
theorem e_null (hd : decode M.2.1 pc = .ok (.aconst_null, 1)) (k : Ev rv M (pc + 1) L (.null :: S) w o) : Ev rv M pc L (S) w o := by
  intro q hq l D ad ca p e s m args below meth c A Z hC hA hR H locs ls hP hD hS hl
  exact lv_null hC.1 hC.2.1 hd (k q hq l D ad ca p e s m args below meth c A Z hC hA hR H locs ls hP hD hS hl)
theorem e_iload_n {k : Fin 4} {i : Nat} {x : Int32} (hd : decode M.2.1 pc = .ok (.iload_n k, 1)) (hi : (k : Nat) = i) (hL : L[i]? = some (some (.int x))) (k : Ev rv M (pc + 1) L (.int x :: S) w o) : Ev rv M pc L (S) w o := by
  intro q hq l D ad ca p e s m args below meth c A Z hC hA hR H locs ls hP hD hS hl
  exact lv_iload_n hC.1 hC.2.1 hd hi (a_load hl hL) (k q hq l D ad ca p e s m args below meth c A Z hC hA hR H locs ls hP hD hS hl)
theorem e_iload {i : Nat} {x : Int32} (hd : decode M.2.1 pc = .ok (.iload i, 2)) (hL : L[i]? = some (some (.int x))) (k : Ev rv M (pc + 2) L (.int x :: S) w o) : Ev rv M pc L (S) w o := by
  intro q hq l D ad ca p e s m args below meth c A Z hC hA hR H locs ls hP hD hS hl
  exact lv_iload hC.1 hC.2.1 hd (a_load hl hL) (k q hq l D ad ca p e s m args below meth c A Z hC hA hR H locs ls hP hD hS hl)
theorem e_lload_n {k : Fin 4} {i : Nat} {x : Int64} (hd : decode M.2.1 pc = .ok (.lload_n k, 1)) (hi : (k : Nat) = i) (hL : L[i]? = some (some (.long x))) (k : Ev rv M (pc + 1) L (.long x :: S) w o) : Ev rv M pc L (S) w o := by
  intro q hq l D ad ca p e s m args below meth c A Z hC hA hR H locs ls hP hD hS hl
  exact lv_lload_n hC.1 hC.2.1 hd hi (a_load hl hL) (k q hq l D ad ca p e s m args below meth c A Z hC hA hR H locs ls hP hD hS hl)
theorem e_lload {i : Nat} {x : Int64} (hd : decode M.2.1 pc = .ok (.lload i, 2)) (hL : L[i]? = some (some (.long x))) (k : Ev rv M (pc + 2) L (.long x :: S) w o) : Ev rv M pc L (S) w o := by
  intro q hq l D ad ca p e s m args below meth c A Z hC hA hR H locs ls hP hD hS hl
  exact lv_lload hC.1 hC.2.1 hd (a_load hl hL) (k q hq l D ad ca p e s m args below meth c A Z hC hA hR H locs ls hP hD hS hl)
theorem e_aload_n {k : Fin 4} {i : Nat} {x : Nat} (hd : decode M.2.1 pc = .ok (.aload_n k, 1)) (hi : (k : Nat) = i) (hL : L[i]? = some (some (.ref x))) (k : Ev rv M (pc + 1) L (.ref x :: S) w o) : Ev rv M pc L (S) w o := by
  intro q hq l D ad ca p e s m args below meth c A Z hC hA hR H locs ls hP hD hS hl
  exact lv_aload_n hC.1 hC.2.1 hd hi (a_load hl hL) (k q hq l D ad ca p e s m args below meth c A Z hC hA hR H locs ls hP hD hS hl)
theorem e_aload {i : Nat} {x : Nat} (hd : decode M.2.1 pc = .ok (.aload i, 2)) (hL : L[i]? = some (some (.ref x))) (k : Ev rv M (pc + 2) L (.ref x :: S) w o) : Ev rv M pc L (S) w o := by
  intro q hq l D ad ca p e s m args below meth c A Z hC hA hR H locs ls hP hD hS hl
  exact lv_aload hC.1 hC.2.1 hd (a_load hl hL) (k q hq l D ad ca p e s m args below meth c A Z hC hA hR H locs ls hP hD hS hl)
theorem e_aload_nN {k : Fin 4} {i : Nat} (hd : decode M.2.1 pc = .ok (.aload_n k, 1)) (hi : (k : Nat) = i) (hL : L[i]? = some (some (.null))) (k : Ev rv M (pc + 1) L (.null :: S) w o) : Ev rv M pc L (S) w o := by
  intro q hq l D ad ca p e s m args below meth c A Z hC hA hR H locs ls hP hD hS hl
  exact lv_aload_nN hC.1 hC.2.1 hd hi (a_load hl hL) (k q hq l D ad ca p e s m args below meth c A Z hC hA hR H locs ls hP hD hS hl)
theorem e_aloadN {i : Nat} (hd : decode M.2.1 pc = .ok (.aload i, 2)) (hL : L[i]? = some (some (.null))) (k : Ev rv M (pc + 2) L (.null :: S) w o) : Ev rv M pc L (S) w o := by
  intro q hq l D ad ca p e s m args below meth c A Z hC hA hR H locs ls hP hD hS hl
  exact lv_aloadN hC.1 hC.2.1 hd (a_load hl hL) (k q hq l D ad ca p e s m args below meth c A Z hC hA hR H locs ls hP hD hS hl)
theorem e_istore_n {i : Nat} {k : Fin 4} {x : Int32} {L' : List (Option Value)} (hd : decode M.2.1 pc = .ok (.istore_n k, 1)) (hi : (k : Nat) = i) (hn : i < M.2.2.1) (hL : a_st1 L i (.int x) = L') (k : Ev rv M (pc + 1) L' S w o) : Ev rv M pc L (.int x :: S) w o := by
  subst hL
  intro q hq l D ad ca p e s m args below meth c A Z hC hA hR H locs ls hP hD hS hl
  exact lv_istore_n hC.1 hC.2.1 hd hi hl hn rfl (fun ls' hl' => k q hq l D ad ca p e s m args below meth c A Z hC hA hR H locs ls' hP hD hS (a_has_st1 hl'))
theorem e_istore {i : Nat} {x : Int32} {L' : List (Option Value)} (hd : decode M.2.1 pc = .ok (.istore i, 2)) (hn : i < M.2.2.1) (hL : a_st1 L i (.int x) = L') (k : Ev rv M (pc + 2) L' S w o) : Ev rv M pc L (.int x :: S) w o := by
  subst hL
  intro q hq l D ad ca p e s m args below meth c A Z hC hA hR H locs ls hP hD hS hl
  exact lv_istore hC.1 hC.2.1 hd hl hn rfl (fun ls' hl' => k q hq l D ad ca p e s m args below meth c A Z hC hA hR H locs ls' hP hD hS (a_has_st1 hl'))
theorem e_lstore_n {i : Nat} {k : Fin 4} {x : Int64} {L' : List (Option Value)} (hd : decode M.2.1 pc = .ok (.lstore_n k, 1)) (hi : (k : Nat) = i) (hn : i + 1 < M.2.2.1) (hL : a_st2 L i (.long x) = L') (k : Ev rv M (pc + 1) L' S w o) : Ev rv M pc L (.long x :: S) w o := by
  subst hL
  intro q hq l D ad ca p e s m args below meth c A Z hC hA hR H locs ls hP hD hS hl
  exact lv_lstore_n hC.1 hC.2.1 hd hi hl hn rfl (fun ls' hl' => k q hq l D ad ca p e s m args below meth c A Z hC hA hR H locs ls' hP hD hS (a_has_st2 hl'))
theorem e_lstore {i : Nat} {x : Int64} {L' : List (Option Value)} (hd : decode M.2.1 pc = .ok (.lstore i, 2)) (hn : i + 1 < M.2.2.1) (hL : a_st2 L i (.long x) = L') (k : Ev rv M (pc + 2) L' S w o) : Ev rv M pc L (.long x :: S) w o := by
  subst hL
  intro q hq l D ad ca p e s m args below meth c A Z hC hA hR H locs ls hP hD hS hl
  exact lv_lstore hC.1 hC.2.1 hd hl hn rfl (fun ls' hl' => k q hq l D ad ca p e s m args below meth c A Z hC hA hR H locs ls' hP hD hS (a_has_st2 hl'))
theorem e_astore_n {i : Nat} {k : Fin 4} {x : Nat} {L' : List (Option Value)} (hd : decode M.2.1 pc = .ok (.astore_n k, 1)) (hi : (k : Nat) = i) (hn : i < M.2.2.1) (hL : a_st1 L i (.ref x) = L') (k : Ev rv M (pc + 1) L' S w o) : Ev rv M pc L (.ref x :: S) w o := by
  subst hL
  intro q hq l D ad ca p e s m args below meth c A Z hC hA hR H locs ls hP hD hS hl
  exact lv_astore_n hC.1 hC.2.1 hd hi hl hn rfl (fun ls' hl' => k q hq l D ad ca p e s m args below meth c A Z hC hA hR H locs ls' hP hD hS (a_has_st1 hl'))
theorem e_astore {i : Nat} {x : Nat} {L' : List (Option Value)} (hd : decode M.2.1 pc = .ok (.astore i, 2)) (hn : i < M.2.2.1) (hL : a_st1 L i (.ref x) = L') (k : Ev rv M (pc + 2) L' S w o) : Ev rv M pc L (.ref x :: S) w o := by
  subst hL
  intro q hq l D ad ca p e s m args below meth c A Z hC hA hR H locs ls hP hD hS hl
  exact lv_astore hC.1 hC.2.1 hd hl hn rfl (fun ls' hl' => k q hq l D ad ca p e s m args below meth c A Z hC hA hR H locs ls' hP hD hS (a_has_st1 hl'))
theorem e_astore_nN {i : Nat} {k : Fin 4} {L' : List (Option Value)} (hd : decode M.2.1 pc = .ok (.astore_n k, 1)) (hi : (k : Nat) = i) (hn : i < M.2.2.1) (hL : a_st1 L i (.null) = L') (k : Ev rv M (pc + 1) L' S w o) : Ev rv M pc L (.null :: S) w o := by
  subst hL
  intro q hq l D ad ca p e s m args below meth c A Z hC hA hR H locs ls hP hD hS hl
  exact lv_astore_nN hC.1 hC.2.1 hd hi hl hn rfl (fun ls' hl' => k q hq l D ad ca p e s m args below meth c A Z hC hA hR H locs ls' hP hD hS (a_has_st1 hl'))
theorem e_astoreN {i : Nat} {L' : List (Option Value)} (hd : decode M.2.1 pc = .ok (.astore i, 2)) (hn : i < M.2.2.1) (hL : a_st1 L i (.null) = L') (k : Ev rv M (pc + 2) L' S w o) : Ev rv M pc L (.null :: S) w o := by
  subst hL
  intro q hq l D ad ca p e s m args below meth c A Z hC hA hR H locs ls hP hD hS hl
  exact lv_astoreN hC.1 hC.2.1 hd hl hn rfl (fun ls' hl' => k q hq l D ad ca p e s m args below meth c A Z hC hA hR H locs ls' hP hD hS (a_has_st1 hl'))
theorem e_iinc {i : Nat} {n : Int} {x v : Int32} {L' : List (Option Value)} (hd : decode M.2.1 pc = .ok (.iinc i n, 3)) (hn : i < M.2.2.1) (hx : L[i]? = some (some (.int x))) (hv : Int32.ofInt n = v) (hL : a_st1 L i (.int (x + v)) = L') (k : Ev rv M (pc + 3) L' S w o) : Ev rv M pc L S w o := by
  subst hL; subst hv
  intro q hq l D ad ca p e s m args below meth c A Z hC hA hR H locs ls hP hD hS hl
  have hm := a_l_mem (ad := ad) L 0 i _ hx
  rw [Nat.zero_add] at hm
  obtain ⟨kk, hkk⟩ := List.getElem?_of_mem hm
  exact lv_iinc hC.1 hC.2.1 hd hl (k := kk) hkk rfl hn rfl (fun ls' hl' => k q hq l D ad ca p e s m args below meth c A Z hC hA hR H locs ls' hP hD hS (a_has_st1 (v := .int (x + Int32.ofInt n)) hl'))
theorem e_iadd {x y : Int32} (hd : decode M.2.1 pc = .ok (.iadd, 1)) (k : Ev rv M (pc + 1) L (.int (x + y) :: S) w o) : Ev rv M pc L (.int y :: .int x :: S) w o := by
  intro q hq l D ad ca p e s m args below meth c A Z hC hA hR H locs ls hP hD hS hl
  exact lv_iadd hC.1 hC.2.1 hd (k q hq l D ad ca p e s m args below meth c A Z hC hA hR H locs ls hP hD hS hl)
theorem e_isub {x y : Int32} (hd : decode M.2.1 pc = .ok (.isub, 1)) (k : Ev rv M (pc + 1) L (.int (x - y) :: S) w o) : Ev rv M pc L (.int y :: .int x :: S) w o := by
  intro q hq l D ad ca p e s m args below meth c A Z hC hA hR H locs ls hP hD hS hl
  exact lv_isub hC.1 hC.2.1 hd (k q hq l D ad ca p e s m args below meth c A Z hC hA hR H locs ls hP hD hS hl)
theorem e_imul {x y : Int32} (hd : decode M.2.1 pc = .ok (.imul, 1)) (k : Ev rv M (pc + 1) L (.int (x * y) :: S) w o) : Ev rv M pc L (.int y :: .int x :: S) w o := by
  intro q hq l D ad ca p e s m args below meth c A Z hC hA hR H locs ls hP hD hS hl
  exact lv_imul hC.1 hC.2.1 hd (k q hq l D ad ca p e s m args below meth c A Z hC hA hR H locs ls hP hD hS hl)
theorem e_iand {x y : Int32} (hd : decode M.2.1 pc = .ok (.iand, 1)) (k : Ev rv M (pc + 1) L (.int (x &&& y) :: S) w o) : Ev rv M pc L (.int y :: .int x :: S) w o := by
  intro q hq l D ad ca p e s m args below meth c A Z hC hA hR H locs ls hP hD hS hl
  exact lv_iand hC.1 hC.2.1 hd (k q hq l D ad ca p e s m args below meth c A Z hC hA hR H locs ls hP hD hS hl)
theorem e_ior {x y : Int32} (hd : decode M.2.1 pc = .ok (.ior, 1)) (k : Ev rv M (pc + 1) L (.int (x ||| y) :: S) w o) : Ev rv M pc L (.int y :: .int x :: S) w o := by
  intro q hq l D ad ca p e s m args below meth c A Z hC hA hR H locs ls hP hD hS hl
  exact lv_ior hC.1 hC.2.1 hd (k q hq l D ad ca p e s m args below meth c A Z hC hA hR H locs ls hP hD hS hl)
theorem e_ixor {x y : Int32} (hd : decode M.2.1 pc = .ok (.ixor, 1)) (k : Ev rv M (pc + 1) L (.int (x ^^^ y) :: S) w o) : Ev rv M pc L (.int y :: .int x :: S) w o := by
  intro q hq l D ad ca p e s m args below meth c A Z hC hA hR H locs ls hP hD hS hl
  exact lv_ixor hC.1 hC.2.1 hd (k q hq l D ad ca p e s m args below meth c A Z hC hA hR H locs ls hP hD hS hl)
theorem e_ishl {x y : Int32} (hd : decode M.2.1 pc = .ok (.ishl, 1)) (k : Ev rv M (pc + 1) L (.int (x <<< (y &&& 31)) :: S) w o) : Ev rv M pc L (.int y :: .int x :: S) w o := by
  intro q hq l D ad ca p e s m args below meth c A Z hC hA hR H locs ls hP hD hS hl
  exact lv_ishl hC.1 hC.2.1 hd (k q hq l D ad ca p e s m args below meth c A Z hC hA hR H locs ls hP hD hS hl)
theorem e_ishr {x y : Int32} (hd : decode M.2.1 pc = .ok (.ishr, 1)) (k : Ev rv M (pc + 1) L (.int (x >>> (y &&& 31)) :: S) w o) : Ev rv M pc L (.int y :: .int x :: S) w o := by
  intro q hq l D ad ca p e s m args below meth c A Z hC hA hR H locs ls hP hD hS hl
  exact lv_ishr hC.1 hC.2.1 hd (k q hq l D ad ca p e s m args below meth c A Z hC hA hR H locs ls hP hD hS hl)
theorem e_iushr {x y : Int32} (hd : decode M.2.1 pc = .ok (.iushr, 1)) (k : Ev rv M (pc + 1) L (.int ((x.toUInt32 >>> (y.toUInt32 &&& Int32.toUInt32 31)).toInt32) :: S) w o) : Ev rv M pc L (.int y :: .int x :: S) w o := by
  intro q hq l D ad ca p e s m args below meth c A Z hC hA hR H locs ls hP hD hS hl
  exact lv_iushr hC.1 hC.2.1 hd rfl (k q hq l D ad ca p e s m args below meth c A Z hC hA hR H locs ls hP hD hS hl)
theorem e_idiv {x y : Int32} (hd : decode M.2.1 pc = .ok (.idiv, 1)) (hy : ¬ y = 0) (k : Ev rv M (pc + 1) L (.int (x / y) :: S) w o) : Ev rv M pc L (.int y :: .int x :: S) w o := by
  intro q hq l D ad ca p e s m args below meth c A Z hC hA hR H locs ls hP hD hS hl
  exact lv_idiv hC.1 hC.2.1 hd hy (k q hq l D ad ca p e s m args below meth c A Z hC hA hR H locs ls hP hD hS hl)
theorem e_irem {x y : Int32} (hd : decode M.2.1 pc = .ok (.irem, 1)) (hy : ¬ y = 0) (k : Ev rv M (pc + 1) L (.int (x - x / y * y) :: S) w o) : Ev rv M pc L (.int y :: .int x :: S) w o := by
  intro q hq l D ad ca p e s m args below meth c A Z hC hA hR H locs ls hP hD hS hl
  exact lv_irem hC.1 hC.2.1 hd hy (k q hq l D ad ca p e s m args below meth c A Z hC hA hR H locs ls hP hD hS hl)
theorem e_ineg {x : Int32} (hd : decode M.2.1 pc = .ok (.ineg, 1)) (k : Ev rv M (pc + 1) L (.int (-x) :: S) w o) : Ev rv M pc L (.int x :: S) w o := by
  intro q hq l D ad ca p e s m args below meth c A Z hC hA hR H locs ls hP hD hS hl
  exact lv_ineg hC.1 hC.2.1 hd (k q hq l D ad ca p e s m args below meth c A Z hC hA hR H locs ls hP hD hS hl)
theorem e_i2l {x : Int32} (hd : decode M.2.1 pc = .ok (.i2l, 1)) (k : Ev rv M (pc + 1) L (.long x.toInt64 :: S) w o) : Ev rv M pc L (.int x :: S) w o := by
  intro q hq l D ad ca p e s m args below meth c A Z hC hA hR H locs ls hP hD hS hl
  exact lv_i2l hC.1 hC.2.1 hd rfl (k q hq l D ad ca p e s m args below meth c A Z hC hA hR H locs ls hP hD hS hl)
theorem e_l2i {x : Int64} (hd : decode M.2.1 pc = .ok (.l2i, 1)) (k : Ev rv M (pc + 1) L (.int x.toInt32 :: S) w o) : Ev rv M pc L (.long x :: S) w o := by
  intro q hq l D ad ca p e s m args below meth c A Z hC hA hR H locs ls hP hD hS hl
  exact lv_l2i hC.1 hC.2.1 hd rfl (k q hq l D ad ca p e s m args below meth c A Z hC hA hR H locs ls hP hD hS hl)
theorem e_i2b {x : Int32} (hd : decode M.2.1 pc = .ok (.i2b, 1)) (k : Ev rv M (pc + 1) L (.int x.toInt8.toInt32 :: S) w o) : Ev rv M pc L (.int x :: S) w o := by
  intro q hq l D ad ca p e s m args below meth c A Z hC hA hR H locs ls hP hD hS hl
  exact lv_i2b hC.1 hC.2.1 hd rfl (k q hq l D ad ca p e s m args below meth c A Z hC hA hR H locs ls hP hD hS hl)
theorem e_i2s {x : Int32} (hd : decode M.2.1 pc = .ok (.i2s, 1)) (k : Ev rv M (pc + 1) L (.int x.toInt16.toInt32 :: S) w o) : Ev rv M pc L (.int x :: S) w o := by
  intro q hq l D ad ca p e s m args below meth c A Z hC hA hR H locs ls hP hD hS hl
  exact lv_i2s hC.1 hC.2.1 hd rfl (k q hq l D ad ca p e s m args below meth c A Z hC hA hR H locs ls hP hD hS hl)
theorem e_ladd {x y : Int64} (hd : decode M.2.1 pc = .ok (.ladd, 1)) (k : Ev rv M (pc + 1) L (.long (x + y) :: S) w o) : Ev rv M pc L (.long y :: .long x :: S) w o := by
  intro q hq l D ad ca p e s m args below meth c A Z hC hA hR H locs ls hP hD hS hl
  exact lv_ladd hC.1 hC.2.1 hd (k q hq l D ad ca p e s m args below meth c A Z hC hA hR H locs ls hP hD hS hl)
theorem e_lsub {x y : Int64} (hd : decode M.2.1 pc = .ok (.lsub, 1)) (k : Ev rv M (pc + 1) L (.long (x - y) :: S) w o) : Ev rv M pc L (.long y :: .long x :: S) w o := by
  intro q hq l D ad ca p e s m args below meth c A Z hC hA hR H locs ls hP hD hS hl
  exact lv_lsub hC.1 hC.2.1 hd (k q hq l D ad ca p e s m args below meth c A Z hC hA hR H locs ls hP hD hS hl)
theorem e_lmul {x y : Int64} (hd : decode M.2.1 pc = .ok (.lmul, 1)) (k : Ev rv M (pc + 1) L (.long (x * y) :: S) w o) : Ev rv M pc L (.long y :: .long x :: S) w o := by
  intro q hq l D ad ca p e s m args below meth c A Z hC hA hR H locs ls hP hD hS hl
  exact lv_lmul hC.1 hC.2.1 hd (k q hq l D ad ca p e s m args below meth c A Z hC hA hR H locs ls hP hD hS hl)
theorem e_ldiv {x y : Int64} (hd : decode M.2.1 pc = .ok (.ldiv, 1)) (hy : ¬ y = 0) (k : Ev rv M (pc + 1) L (.long (x / y) :: S) w o) : Ev rv M pc L (.long y :: .long x :: S) w o := by
  intro q hq l D ad ca p e s m args below meth c A Z hC hA hR H locs ls hP hD hS hl
  exact lv_ldiv hC.1 hC.2.1 hd hy (k q hq l D ad ca p e s m args below meth c A Z hC hA hR H locs ls hP hD hS hl)
theorem e_lrem {x y : Int64} (hd : decode M.2.1 pc = .ok (.lrem, 1)) (hy : ¬ y = 0) (k : Ev rv M (pc + 1) L (.long (x - x / y * y) :: S) w o) : Ev rv M pc L (.long y :: .long x :: S) w o := by
  intro q hq l D ad ca p e s m args below meth c A Z hC hA hR H locs ls hP hD hS hl
  exact lv_lrem hC.1 hC.2.1 hd hy (k q hq l D ad ca p e s m args below meth c A Z hC hA hR H locs ls hP hD hS hl)
theorem e_lcmp {x y : Int64} (hd : decode M.2.1 pc = .ok (.lcmp, 1)) (k : Ev rv M (pc + 1) L (.int (lg_cmp x y) :: S) w o) : Ev rv M pc L (.long y :: .long x :: S) w o := by
  intro q hq l D ad ca p e s m args below meth c A Z hC hA hR H locs ls hP hD hS hl
  exact W.lcmp hC.1 hC.2.1 hd (k q hq l D ad ca p e s m args below meth c A Z hC hA hR H locs ls hP hD hS hl)
theorem e_dup {v : Value} (hd : decode M.2.1 pc = .ok (.dup, 1)) (hv : v.category = 1) (k : Ev rv M (pc + 1) L (v :: v :: S) w o) : Ev rv M pc L (v :: S) w o := by
  intro q hq l D ad ca p e s m args below meth c A Z hC hA hR H locs ls hP hD hS hl
  exact lv_dup hC.1 hC.2.1 hd ((a_cat ad v).trans hv) (k q hq l D ad ca p e s m args below meth c A Z hC hA hR H locs ls hP hD hS hl)
theorem e_pop {v : Value} (hd : decode M.2.1 pc = .ok (.pop, 1)) (hv : v.category = 1) (k : Ev rv M (pc + 1) L (S) w o) : Ev rv M pc L (v :: S) w o := by
  intro q hq l D ad ca p e s m args below meth c A Z hC hA hR H locs ls hP hD hS hl
  exact lv_pop hC.1 hC.2.1 hd ((a_cat ad v).trans hv) (k q hq l D ad ca p e s m args below meth c A Z hC hA hR H locs ls hP hD hS hl)
theorem e_dup2 {u v : Value} (hd : decode M.2.1 pc = .ok (.dup2, 1)) (hv : v.category = 1) (hu : u.category = 1) (k : Ev rv M (pc + 1) L (v :: u :: v :: u :: S) w o) : Ev rv M pc L (v :: u :: S) w o := by
  intro q hq l D ad ca p e s m args below meth c A Z hC hA hR H locs ls hP hD hS hl
  exact lv_dup2_11 hC.1 hC.2.1 hd ((a_cat ad v).trans hv) ((a_cat ad u).trans hu) (k q hq l D ad ca p e s m args below meth c A Z hC hA hR H locs ls hP hD hS hl)
theorem e_goto {off : Int} {tgt : Nat} (hd : decode M.2.1 pc = .ok (.goto off, 3)) (ht : (pc : Int) + off = (tgt : Int)) (k : Ev rv M tgt L S w o) : Ev rv M pc L S w o := by
  intro q hq l D ad ca p e s m args below meth c A Z hC hA hR H locs ls hP hD hS hl
  exact lv_goto hC.1 hC.2.1 hd ht (k q hq l D ad ca p e s m args below meth c A Z hC hA hR H locs ls hP hD hS hl)
theorem e_ifnonnull {x : Nat} {off : Int} {tgt : Nat} (hd : decode M.2.1 pc = .ok (.ifnonnull off, 3)) (ht : (pc : Int) + off = (tgt : Int)) (k : Ev rv M tgt L S w o) : Ev rv M pc L (.ref x :: S) w o := by
  intro q hq l D ad ca p e s m args below meth c A Z hC hA hR H locs ls hP hD hS hl
  exact lv_ifnonnull hC.1 hC.2.1 hd ht (k q hq l D ad ca p e s m args below meth c A Z hC hA hR H locs ls hP hD hS hl)
theorem e_ifnull {x : Nat} {off : Int} (hd : decode M.2.1 pc = .ok (.ifnull off, 3)) (k : Ev rv M (pc + 3) L S w o) : Ev rv M pc L (.ref x :: S) w o := by
  intro q hq l D ad ca p e s m args below meth c A Z hC hA hR H locs ls hP hD hS hl
  exact lv_ifnull hC.1 hC.2.1 hd (k q hq l D ad ca p e s m args below meth c A Z hC hA hR H locs ls hP hD hS hl)
theorem e_ifnullN {off : Int} {tgt : Nat} (hd : decode M.2.1 pc = .ok (.ifnull off, 3)) (ht : (pc : Int) + off = (tgt : Int)) (k : Ev rv M tgt L S w o) : Ev rv M pc L (.null :: S) w o := by
  intro q hq l D ad ca p e s m args below meth c A Z hC hA hR H locs ls hP hD hS hl
  exact lv_ifnullN hC.1 hC.2.1 hd ht (k q hq l D ad ca p e s m args below meth c A Z hC hA hR H locs ls hP hD hS hl)
theorem e_ifnonnullN {off : Int} (hd : decode M.2.1 pc = .ok (.ifnonnull off, 3)) (k : Ev rv M (pc + 3) L S w o) : Ev rv M pc L (.null :: S) w o := by
  intro q hq l D ad ca p e s m args below meth c A Z hC hA hR H locs ls hP hD hS hl
  exact lv_ifnonnullN hC.1 hC.2.1 hd (k q hq l D ad ca p e s m args below meth c A Z hC hA hR H locs ls hP hD hS hl)
theorem e_chk {cnd : Prop} [Decidable cnd] (k : ¬ cnd → Ev rv M pc L S w o) : Ev rv M pc L S w (if cnd then none else o) := by
  intro q hq
  by_cases h : cnd
  · rw [if_pos h] at hq; cases hq
  · rw [if_neg h] at hq; exact k h q hq
theorem e_none : Ev rv M pc L S w none := fun q hq => by cases hq
theorem e_eq {o' : Option (τ × aW)} (h : o = o') (k : Ev rv M pc L S w o') : Ev rv M pc L S w o := h ▸ k
theorem e_if_eq {x : Int32} {off : Int} {tgt : Nat} {o1 o2 : Option (τ × aW)} (hd : decode M.2.1 pc = .ok (.ifCond .eq off, 3)) (ht : (pc : Int) + off = (tgt : Int)) (kt : x = 0 → Ev rv M tgt L S w o1) (kf : ¬ (x = 0) → Ev rv M (pc + 3) L S w o2) : Ev rv M pc L (.int x :: S) w (if x = 0 then o1 else o2) := by
  intro q hq l D ad ca p e s m args below meth c A Z hC hA hR H locs ls hP hD hS hl
  by_cases hc : x = 0
  · rw [if_pos hc] at hq
    exact lv_if_eq hC.1 hC.2.1 hd ht (fun h => kt h q hq l D ad ca p e s m args below meth c A Z hC hA hR H locs ls hP hD hS hl) (fun h => absurd hc (by simpa using h))
  · rw [if_neg hc] at hq
    exact lv_if_eq hC.1 hC.2.1 hd ht (fun h => absurd h hc) (fun h => kf hc q hq l D ad ca p e s m args below meth c A Z hC hA hR H locs ls hP hD hS hl)
theorem e_icmp_eq {x y : Int32} {off : Int} {tgt : Nat} {o1 o2 : Option (τ × aW)} (hd : decode M.2.1 pc = .ok (.if_icmp .eq off, 3)) (ht : (pc : Int) + off = (tgt : Int)) (kt : x = y → Ev rv M tgt L S w o1) (kf : ¬ (x = y) → Ev rv M (pc + 3) L S w o2) : Ev rv M pc L (.int y :: .int x :: S) w (if x = y then o1 else o2) := by
  intro q hq l D ad ca p e s m args below meth c A Z hC hA hR H locs ls hP hD hS hl
  by_cases hc : x = y
  · rw [if_pos hc] at hq
    exact lv_icmp_eq hC.1 hC.2.1 hd ht (fun h => kt h q hq l D ad ca p e s m args below meth c A Z hC hA hR H locs ls hP hD hS hl) (fun h => absurd hc (by simpa using h))
  · rw [if_neg hc] at hq
    exact lv_icmp_eq hC.1 hC.2.1 hd ht (fun h => absurd h hc) (fun h => kf hc q hq l D ad ca p e s m args below meth c A Z hC hA hR H locs ls hP hD hS hl)
theorem e_if_ne {x : Int32} {off : Int} {tgt : Nat} {o1 o2 : Option (τ × aW)} (hd : decode M.2.1 pc = .ok (.ifCond .ne off, 3)) (ht : (pc : Int) + off = (tgt : Int)) (kt : ¬ x = 0 → Ev rv M tgt L S w o1) (kf : ¬ (¬ x = 0) → Ev rv M (pc + 3) L S w o2) : Ev rv M pc L (.int x :: S) w (if ¬ x = 0 then o1 else o2) := by
  intro q hq l D ad ca p e s m args below meth c A Z hC hA hR H locs ls hP hD hS hl
  by_cases hc : ¬ x = 0
  · rw [if_pos hc] at hq
    exact lv_if_ne hC.1 hC.2.1 hd ht (fun h => kt h q hq l D ad ca p e s m args below meth c A Z hC hA hR H locs ls hP hD hS hl) (fun h => absurd hc (by simpa using h))
  · rw [if_neg hc] at hq
    exact lv_if_ne hC.1 hC.2.1 hd ht (fun h => absurd h hc) (fun h => kf hc q hq l D ad ca p e s m args below meth c A Z hC hA hR H locs ls hP hD hS hl)
theorem e_icmp_ne {x y : Int32} {off : Int} {tgt : Nat} {o1 o2 : Option (τ × aW)} (hd : decode M.2.1 pc = .ok (.if_icmp .ne off, 3)) (ht : (pc : Int) + off = (tgt : Int)) (kt : ¬ x = y → Ev rv M tgt L S w o1) (kf : ¬ (¬ x = y) → Ev rv M (pc + 3) L S w o2) : Ev rv M pc L (.int y :: .int x :: S) w (if ¬ x = y then o1 else o2) := by
  intro q hq l D ad ca p e s m args below meth c A Z hC hA hR H locs ls hP hD hS hl
  by_cases hc : ¬ x = y
  · rw [if_pos hc] at hq
    exact lv_icmp_ne hC.1 hC.2.1 hd ht (fun h => kt h q hq l D ad ca p e s m args below meth c A Z hC hA hR H locs ls hP hD hS hl) (fun h => absurd hc (by simpa using h))
  · rw [if_neg hc] at hq
    exact lv_icmp_ne hC.1 hC.2.1 hd ht (fun h => absurd h hc) (fun h => kf hc q hq l D ad ca p e s m args below meth c A Z hC hA hR H locs ls hP hD hS hl)
theorem e_if_lt {x : Int32} {off : Int} {tgt : Nat} {o1 o2 : Option (τ × aW)} (hd : decode M.2.1 pc = .ok (.ifCond .lt off, 3)) (ht : (pc : Int) + off = (tgt : Int)) (kt : x < 0 → Ev rv M tgt L S w o1) (kf : ¬ (x < 0) → Ev rv M (pc + 3) L S w o2) : Ev rv M pc L (.int x :: S) w (if x < 0 then o1 else o2) := by
  intro q hq l D ad ca p e s m args below meth c A Z hC hA hR H locs ls hP hD hS hl
  by_cases hc : x < 0
  · rw [if_pos hc] at hq
    exact lv_if_lt hC.1 hC.2.1 hd ht (fun h => kt h q hq l D ad ca p e s m args below meth c A Z hC hA hR H locs ls hP hD hS hl) (fun h => absurd hc (by simpa using h))
  · rw [if_neg hc] at hq
    exact lv_if_lt hC.1 hC.2.1 hd ht (fun h => absurd h hc) (fun h => kf hc q hq l D ad ca p e s m args below meth c A Z hC hA hR H locs ls hP hD hS hl)
theorem e_icmp_lt {x y : Int32} {off : Int} {tgt : Nat} {o1 o2 : Option (τ × aW)} (hd : decode M.2.1 pc = .ok (.if_icmp .lt off, 3)) (ht : (pc : Int) + off = (tgt : Int)) (kt : x < y → Ev rv M tgt L S w o1) (kf : ¬ (x < y) → Ev rv M (pc + 3) L S w o2) : Ev rv M pc L (.int y :: .int x :: S) w (if x < y then o1 else o2) := by
  intro q hq l D ad ca p e s m args below meth c A Z hC hA hR H locs ls hP hD hS hl
  by_cases hc : x < y
  · rw [if_pos hc] at hq
    exact lv_icmp_lt hC.1 hC.2.1 hd ht (fun h => kt h q hq l D ad ca p e s m args below meth c A Z hC hA hR H locs ls hP hD hS hl) (fun h => absurd hc (by simpa using h))
  · rw [if_neg hc] at hq
    exact lv_icmp_lt hC.1 hC.2.1 hd ht (fun h => absurd h hc) (fun h => kf hc q hq l D ad ca p e s m args below meth c A Z hC hA hR H locs ls hP hD hS hl)
theorem e_if_ge {x : Int32} {off : Int} {tgt : Nat} {o1 o2 : Option (τ × aW)} (hd : decode M.2.1 pc = .ok (.ifCond .ge off, 3)) (ht : (pc : Int) + off = (tgt : Int)) (kt : 0 ≤ x → Ev rv M tgt L S w o1) (kf : ¬ (0 ≤ x) → Ev rv M (pc + 3) L S w o2) : Ev rv M pc L (.int x :: S) w (if 0 ≤ x then o1 else o2) := by
  intro q hq l D ad ca p e s m args below meth c A Z hC hA hR H locs ls hP hD hS hl
  by_cases hc : 0 ≤ x
  · rw [if_pos hc] at hq
    exact lv_if_ge hC.1 hC.2.1 hd ht (fun h => kt h q hq l D ad ca p e s m args below meth c A Z hC hA hR H locs ls hP hD hS hl) (fun h => absurd hc (by simpa using h))
  · rw [if_neg hc] at hq
    exact lv_if_ge hC.1 hC.2.1 hd ht (fun h => absurd h hc) (fun h => kf hc q hq l D ad ca p e s m args below meth c A Z hC hA hR H locs ls hP hD hS hl)
theorem e_icmp_ge {x y : Int32} {off : Int} {tgt : Nat} {o1 o2 : Option (τ × aW)} (hd : decode M.2.1 pc = .ok (.if_icmp .ge off, 3)) (ht : (pc : Int) + off = (tgt : Int)) (kt : y ≤ x → Ev rv M tgt L S w o1) (kf : ¬ (y ≤ x) → Ev rv M (pc + 3) L S w o2) : Ev rv M pc L (.int y :: .int x :: S) w (if y ≤ x then o1 else o2) := by
  intro q hq l D ad ca p e s m args below meth c A Z hC hA hR H locs ls hP hD hS hl
  by_cases hc : y ≤ x
  · rw [if_pos hc] at hq
    exact lv_icmp_ge hC.1 hC.2.1 hd ht (fun h => kt h q hq l D ad ca p e s m args below meth c A Z hC hA hR H locs ls hP hD hS hl) (fun h => absurd hc (by simpa using h))
  · rw [if_neg hc] at hq
    exact lv_icmp_ge hC.1 hC.2.1 hd ht (fun h => absurd h hc) (fun h => kf hc q hq l D ad ca p e s m args below meth c A Z hC hA hR H locs ls hP hD hS hl)
theorem e_if_gt {x : Int32} {off : Int} {tgt : Nat} {o1 o2 : Option (τ × aW)} (hd : decode M.2.1 pc = .ok (.ifCond .gt off, 3)) (ht : (pc : Int) + off = (tgt : Int)) (kt : 0 < x → Ev rv M tgt L S w o1) (kf : ¬ (0 < x) → Ev rv M (pc + 3) L S w o2) : Ev rv M pc L (.int x :: S) w (if 0 < x then o1 else o2) := by
  intro q hq l D ad ca p e s m args below meth c A Z hC hA hR H locs ls hP hD hS hl
  by_cases hc : 0 < x
  · rw [if_pos hc] at hq
    exact lv_if_gt hC.1 hC.2.1 hd ht (fun h => kt h q hq l D ad ca p e s m args below meth c A Z hC hA hR H locs ls hP hD hS hl) (fun h => absurd hc (by simpa using h))
  · rw [if_neg hc] at hq
    exact lv_if_gt hC.1 hC.2.1 hd ht (fun h => absurd h hc) (fun h => kf hc q hq l D ad ca p e s m args below meth c A Z hC hA hR H locs ls hP hD hS hl)
theorem e_icmp_gt {x y : Int32} {off : Int} {tgt : Nat} {o1 o2 : Option (τ × aW)} (hd : decode M.2.1 pc = .ok (.if_icmp .gt off, 3)) (ht : (pc : Int) + off = (tgt : Int)) (kt : y < x → Ev rv M tgt L S w o1) (kf : ¬ (y < x) → Ev rv M (pc + 3) L S w o2) : Ev rv M pc L (.int y :: .int x :: S) w (if y < x then o1 else o2) := by
  intro q hq l D ad ca p e s m args below meth c A Z hC hA hR H locs ls hP hD hS hl
  by_cases hc : y < x
  · rw [if_pos hc] at hq
    exact lv_icmp_gt hC.1 hC.2.1 hd ht (fun h => kt h q hq l D ad ca p e s m args below meth c A Z hC hA hR H locs ls hP hD hS hl) (fun h => absurd hc (by simpa using h))
  · rw [if_neg hc] at hq
    exact lv_icmp_gt hC.1 hC.2.1 hd ht (fun h => absurd h hc) (fun h => kf hc q hq l D ad ca p e s m args below meth c A Z hC hA hR H locs ls hP hD hS hl)
theorem e_if_le {x : Int32} {off : Int} {tgt : Nat} {o1 o2 : Option (τ × aW)} (hd : decode M.2.1 pc = .ok (.ifCond .le off, 3)) (ht : (pc : Int) + off = (tgt : Int)) (kt : x ≤ 0 → Ev rv M tgt L S w o1) (kf : ¬ (x ≤ 0) → Ev rv M (pc + 3) L S w o2) : Ev rv M pc L (.int x :: S) w (if x ≤ 0 then o1 else o2) := by
  intro q hq l D ad ca p e s m args below meth c A Z hC hA hR H locs ls hP hD hS hl
  by_cases hc : x ≤ 0
  · rw [if_pos hc] at hq
    exact lv_if_le hC.1 hC.2.1 hd ht (fun h => kt h q hq l D ad ca p e s m args below meth c A Z hC hA hR H locs ls hP hD hS hl) (fun h => absurd hc (by simpa using h))
  · rw [if_neg hc] at hq
    exact lv_if_le hC.1 hC.2.1 hd ht (fun h => absurd h hc) (fun h => kf hc q hq l D ad ca p e s m args below meth c A Z hC hA hR H locs ls hP hD hS hl)
theorem e_icmp_le {x y : Int32} {off : Int} {tgt : Nat} {o1 o2 : Option (τ × aW)} (hd : decode M.2.1 pc = .ok (.if_icmp .le off, 3)) (ht : (pc : Int) + off = (tgt : Int)) (kt : x ≤ y → Ev rv M tgt L S w o1) (kf : ¬ (x ≤ y) → Ev rv M (pc + 3) L S w o2) : Ev rv M pc L (.int y :: .int x :: S) w (if x ≤ y then o1 else o2) := by
  intro q hq l D ad ca p e s m args below meth c A Z hC hA hR H locs ls hP hD hS hl
  by_cases hc : x ≤ y
  · rw [if_pos hc] at hq
    exact lv_icmp_le hC.1 hC.2.1 hd ht (fun h => kt h q hq l D ad ca p e s m args below meth c A Z hC hA hR H locs ls hP hD hS hl) (fun h => absurd hc (by simpa using h))
  · rw [if_neg hc] at hq
    exact lv_icmp_le hC.1 hC.2.1 hd ht (fun h => absurd h hc) (fun h => kf hc q hq l D ad ca p e s m args below meth c A Z hC hA hR H locs ls hP hD hS hl)
end EV
/-! reading and writing the cells of a world -/
def a_fld (c : Nat) (w : aW) (r k : Nat) : Option Value := if r < a_N then (match w r with
  | .inr (ci, fs) => if ci = c then fs[k]? else none
  | .inl _ => none) else none
def gI (c : Nat) (w : aW) (r k : Nat) : Option Int32 := match a_fld c w r k with
  | some (.int x) => some x
  | _ => none
def gR (c : Nat) (w : aW) (r k : Nat) : Option Nat := match a_fld c w r k with
  | some (.ref x) => some x
  | _ => none
def sF (c : Nat) (w : aW) (r k : Nat) (v : Value) : Option aW := if r < a_N then (match w r with
  | .inr (ci, fs) => if ci = c ∧ k < fs.length then some (a_up w r (.inr (ci, fs.set k v))) else none
  | .inl _ => none) else none
def a_ia (w : aW) (r : Nat) : Option (Nat × (Nat → Int32)) := if r < a_N then (match w r with
  | .inl (0, n, .inl f) => some (n, f)
  | _ => none) else none
def a_la (w : aW) (r : Nat) : Option (Nat × (Nat → Int64)) := if r < a_N then (match w r with
  | .inl (1, n, .inr (.inl f)) => some (n, f)
  | _ => none) else none
def a_qa (w : aW) (r : Nat) : Option (Nat × (Nat → Option Nat)) := if r < a_N then (match w r with
  | .inl (2, n, .inr (.inr (.inr (.inr f)))) => some (n, f)
  | _ => none) else none
def a_ix (i : Int32) (n : Nat) : Prop := ¬ (i < 0 ∨ n ≤ i.toNatClampNeg)
def gA (w : aW) (r : Nat) (i : Int32) : Option Int32 := (a_ia w r).bind fun a => if i < 0 ∨ a.1 ≤ i.toNatClampNeg then none else some (a.2 i.toNatClampNeg)
def sA (w : aW) (r : Nat) (i x : Int32) : Option aW := (a_ia w r).bind fun a => if i < 0 ∨ a.1 ≤ i.toNatClampNeg then none else some (a_up w r (.inl (0, a.1, .inl (upd a.2 i.toNatClampNeg x))))
def gL (w : aW) (r : Nat) (i : Int32) : Option Int64 := (a_la w r).bind fun a => if i < 0 ∨ a.1 ≤ i.toNatClampNeg then none else some (a.2 i.toNatClampNeg)
def sL (w : aW) (r : Nat) (i : Int32) (x : Int64) : Option aW := (a_la w r).bind fun a => if i < 0 ∨ a.1 ≤ i.toNatClampNeg then none else some (a_up w r (.inl (1, a.1, .inr (.inl (vp_updL a.2 i.toNatClampNeg x)))))
def gQ (w : aW) (r : Nat) (i : Int32) : Option (Option Nat) := (a_qa w r).bind fun a => if i < 0 ∨ a.1 ≤ i.toNatClampNeg then none else some (a.2 i.toNatClampNeg)
def gN (w : aW) (r : Nat) : Option Int32 := (a_ia w r).map fun a => Int32.ofNat a.1
/-- System.arraycopy of ints -/
def cpI (w : aW) (r0 : Nat) (sp : Int32) (r1 : Nat) (dp n : Int32) : Option aW := (a_ia w r0).bind fun a => (a_ia w r1).bind fun b =>
  if sp < 0 ∨ dp < 0 ∨ n < 0 ∨ a.1 < sp.toNatClampNeg + n.toNatClampNeg ∨ b.1 < dp.toNatClampNeg + n.toNatClampNeg then none
  else some (a_up w r1 (.inl (0, b.1, .inl (va_cpy a.2 b.2 sp.toNatClampNeg dp.toNatClampNeg n.toNatClampNeg))))
/-- is there an object of class c? -/
def a_isO (c : Nat) (w : aW) (r : Nat) : Prop := r < a_N ∧ ∃ fs, w r = .inr (c, fs)
def a_isOb (c : Nat) (w : aW) (r : Nat) : Bool := decide (r < a_N) && (match w r with
  | .inr (ci, _) => ci == c
  | .inl _ => false)
def cV {α : Type} (c : Nat) (w : aW) (r : Nat) (x : Option α) : Option α := if a_isOb c w r = true then x else none
theorem a_isOb_spec {c : Nat} {w : aW} {r : Nat} (h : a_isOb c w r = true) : a_isO c w r := by
  unfold a_isOb at h
  rw [Bool.and_eq_true, decide_eq_true_eq] at h
  refine ⟨h.1, ?_⟩
  have h2 := h.2
  match hw : w r with
  | .inr (ci, fs) =>
    rw [hw] at h2
    have h3 : ci = c := by simpa using h2
    subst h3
    exact ⟨fs, rfl⟩
  | .inl _ => rw [hw] at h2; simp at h2
theorem a_fld_spec {c : Nat} {w : aW} {r k : Nat} {v : Value} (h : a_fld c w r k = some v) : r < a_N ∧ ∃ fs, w r = .inr (c, fs) ∧ fs[k]? = some v := by
  unfold a_fld at h
  by_cases hr : r < a_N
  · rw [if_pos hr] at h
    match hw : w r with
    | .inr (ci, fs) =>
      rw [hw] at h
      simp only at h
      by_cases hc : ci = c
      · rw [if_pos hc] at h; subst hc; exact ⟨hr, fs, rfl, h⟩
      · rw [if_neg hc] at h; cases h
    | .inl _ => rw [hw] at h; cases h
  · rw [if_neg hr] at h; cases h
theorem gI_spec {c : Nat} {w : aW} {r k : Nat} {x : Int32} (h : gI c w r k = some x) : a_fld c w r k = some (.int x) := by
  unfold gI at h
  split at h
  · next y hy => rw [hy]; cases h; rfl
  · cases h
theorem gR_spec {c : Nat} {w : aW} {r k : Nat} {x : Nat} (h : gR c w r k = some x) : a_fld c w r k = some (.ref x) := by
  unfold gR at h
  split at h
  · next y hy => rw [hy]; cases h; rfl
  · cases h
theorem sF_spec {c : Nat} {w w' : aW} {r k : Nat} {v : Value} (h : sF c w r k v = some w') : r < a_N ∧ ∃ fs, w r = .inr (c, fs) ∧ k < fs.length ∧ w' = a_up w r (.inr (c, fs.set k v)) := by
  unfold sF at h
  by_cases hr : r < a_N
  · rw [if_pos hr] at h
    match hw : w r with
    | .inr (ci, fs) =>
      rw [hw] at h
      simp only at h
      by_cases hc : ci = c ∧ k < fs.length
      · rw [if_pos hc] at h
        obtain ⟨h1, h2⟩ := hc
        subst h1
        exact ⟨hr, fs, rfl, h2, (Option.some.inj h).symm⟩
      · rw [if_neg hc] at h; cases h
    | .inl _ => rw [hw] at h; cases h
  · rw [if_neg hr] at h; cases h
theorem a_ia_spec {w : aW} {r : Nat} {a : Nat × (Nat → Int32)} (h : a_ia w r = some a) : r < a_N ∧ w r = .inl (0, a.1, .inl a.2) := by
  unfold a_ia at h
  by_cases hr : r < a_N
  · rw [if_pos hr] at h
    split at h
    · next n f hw => rw [hw]; cases h; exact ⟨hr, rfl⟩
    · cases h
  · rw [if_neg hr] at h; cases h
theorem a_la_spec {w : aW} {r : Nat} {a : Nat × (Nat → Int64)} (h : a_la w r = some a) : r < a_N ∧ w r = .inl (1, a.1, .inr (.inl a.2)) := by
  unfold a_la at h
  by_cases hr : r < a_N
  · rw [if_pos hr] at h
    split at h
    · next n f hw => rw [hw]; cases h; exact ⟨hr, rfl⟩
    · cases h
  · rw [if_neg hr] at h; cases h
theorem a_qa_spec {w : aW} {r : Nat} {a : Nat × (Nat → Option Nat)} (h : a_qa w r = some a) : r < a_N ∧ w r = .inl (2, a.1, .inr (.inr (.inr (.inr a.2)))) := by
  unfold a_qa at h
  by_cases hr : r < a_N
  · rw [if_pos hr] at h
    split at h
    · next n f hw => rw [hw]; cases h; exact ⟨hr, rfl⟩
    · cases h
  · rw [if_neg hr] at h; cases h
/-- a place where a field of class c is read; .. or written -/
def a_fs (own : String) (idx c k : Nat) : Prop := ∃ (C : String) (T : u_T) (N : Nat), a_cl[c]? = some (C, T, N) ∧ (∀ w ∈ u_ws C T N, w ∈ a_T) ∧ k < N ∧ Cond.fieldLink own idx (T k).1 (T k).2.1 (T k).2.2.1 ∈ a_T
def a_fw (own : String) (idx c k : Nat) (ty : FieldType) : Prop := ∃ (C : String) (T : u_T) (N : Nat) (ty0 : Nat → FieldType), a_cl[c]? = some (C, T, N) ∧ (∀ w ∈ u_ws C T N, w ∈ a_T) ∧ k < N ∧ Cond.fieldLink own idx (T k).1 (T k).2.1 (T k).2.2.1 ∈ a_T ∧ (∀ k, k < N → parseFieldDescriptor (T k).2.2.1 = some (ty0 k)) ∧ (∀ a, a < N → ∀ b, b < N → a ≠ b → (T a).2.1 ≠ (T b).2.1) ∧ (T k).2.2.2 = false ∧ parseFieldDescriptor (T k).2.2.1 = some ty
def a_okM (M : aM) (n : Nat) : Prop := (M.1.cls ≠ "java/lang/invoke/MethodHandle" ∧ M.1.cls ≠ "java/lang/invoke/VarHandle") ∧ (parseMethodDescriptor M.1.desc).map (fun d => d.parameters.length) = some n ∧ Cond.code M.1 M.2.1 M.2.2.1 M.2.2.2.1 ∈ a_T ∧ Cond.initialized M.1.cls ∈ a_T
def a_rm (M M' : aM) : Prop := M'.2.2.2.2.1 + 1 ≤ M.2.2.2.2.1 ∧ 8 + (M'.2.2.1 + 11) + M'.2.2.2.2.2 ≤ M.2.2.2.2.2
def a_okV (own : String) (M' : aM) (idx : Nat) : Prop := Cond.methodLink own idx M'.1 ∈ a_T ∧ Cond.instanceMethod M'.1 ∈ a_T ∧ Cond.selects M'.1.cls M'.1 M'.1 ∈ a_T
def a_okS (own : String) (M' : aM) (idx : Nat) : Prop := Cond.methodLink own idx M'.1 ∈ a_T ∧ Cond.static M'.1 ∈ a_T
def a_okN (own : String) (M' : aM) (idx : Nat) : Prop := (∃ host, Cond.methodLinkNest own idx M'.1 host ∈ a_Ns) ∧ Cond.static M'.1 ∈ a_T
section EW
variable {τ : Type} {rv : τ → Option Value} {M : aM} {pc : Nat} {L : List (Option Value)} {S : List Value} {w : aW}
theorem e_getI {idx c0 k r : Nat} {g : Int32 → Option (τ × aW)} (hd : decode M.2.1 pc = .ok (.getfield idx, 3)) (hf : a_fs M.1.cls idx c0 k) (kk : ∀ x, Ev rv M (pc + 3) L (.int x :: S) w (g x)) : Ev rv M pc L (.ref r :: S) w ((gI c0 w r k).bind g) := by
  intro q hq l D ad ca p e s m args below meth c A Z hC hA hR H locs ls hP hD hS hl
  cases hx : gI c0 w r k with
  | none => rw [hx] at hq; cases hq
  | some x =>
    rw [hx] at hq
    obtain ⟨h1, fs, h2, h3⟩ := a_fld_spec (gI_spec hx)
    obtain ⟨C, T, N, f1, f2, f3, f4⟩ := hf
    refine va_get (Ts := a_T) (v := .int x) hC.1 hC.2.1 hC.2.2.2.2.2.1 f2 hC.2.2.2.2.1 hC.2.2.2.2.2.2.2.2 hP r (fs := fs.map (a_v ad)) ?_ f1 k f3 (hC.2.2.2.2.2.1 _ f4) (fun _ h9 => h9) ?_ hd (kk x q hq l D ad ca p e s m args below meth c A Z hC hA hR H locs ls hP hD hS hl)
    · rw [a_w_get h1, h2]; rfl
    · rw [List.getElem?_map, h3]; rfl
theorem e_getR {idx c0 k r : Nat} {g : Nat → Option (τ × aW)} (hd : decode M.2.1 pc = .ok (.getfield idx, 3)) (hf : a_fs M.1.cls idx c0 k) (kk : ∀ x, Ev rv M (pc + 3) L (.ref x :: S) w (g x)) : Ev rv M pc L (.ref r :: S) w ((gR c0 w r k).bind g) := by
  intro q hq l D ad ca p e s m args below meth c A Z hC hA hR H locs ls hP hD hS hl
  cases hx : gR c0 w r k with
  | none => rw [hx] at hq; cases hq
  | some x =>
    rw [hx] at hq
    obtain ⟨h1, fs, h2, h3⟩ := a_fld_spec (gR_spec hx)
    obtain ⟨C, T, N, f1, f2, f3, f4⟩ := hf
    refine va_get (Ts := a_T) (v := .ref (ad x)) hC.1 hC.2.1 hC.2.2.2.2.2.1 f2 hC.2.2.2.2.1 hC.2.2.2.2.2.2.2.2 hP r (fs := fs.map (a_v ad)) ?_ f1 k f3 (hC.2.2.2.2.2.1 _ f4) (fun _ h9 => h9) ?_ hd (kk x q hq l D ad ca p e s m args below meth c A Z hC hA hR H locs ls hP hD hS hl)
    · rw [a_w_get h1, h2]; rfl
    · rw [List.getElem?_map, h3]; rfl
theorem e_put {idx c0 k r : Nat} {v : Value} {ty : FieldType} {g : aW → Option (τ × aW)} (hd : decode M.2.1 pc = .ok (.putfield idx, 3)) (hf : a_fw M.1.cls idx c0 k ty) (hn : ∀ ad, narrow ty (a_v ad v) = a_v ad v) (hfit : ∀ ad, fits ty (a_v ad v) = true) (kk : ∀ w', Ev rv M (pc + 3) L S w' (g w')) : Ev rv M pc L (v :: .ref r :: S) w ((sF c0 w r k v).bind g) := by
  intro q hq l D ad ca p e s m args below meth c A Z hC hA hR H locs ls hP hD hS hl
  cases hx : sF c0 w r k v with
  | none => rw [hx] at hq; cases hq
  | some w' =>
    rw [hx] at hq
    obtain ⟨h1, fs, h2, h3, h4⟩ := sF_spec hx
    obtain ⟨C, T, N, ty0, f1, f2, f3, f4, f5, f6, f7, f8⟩ := hf
    have he : (a_w ad ca w)[r]? = some (ad r, .inr (c0, fs.map (a_v ad))) := by rw [a_w_get h1, h2]; rfl
    refine va_put (Ts := a_T) hC.1 hC.2.1 hC.2.2.2.2.2.1 f2 ty0 f5 f6 hC.2.2.2.2.1 hC.2.2.2.2.2.2.2.2 hP hD hS r (fs := fs.map (a_v ad)) he f1 k f3 (hC.2.2.2.2.2.1 _ f4) (fun _ h9 => h9) f7 f8 (hn ad) (hfit ad) (by rw [List.length_map]; exact h3) hd (fun H1 locs1 hP1 hD1 hS1 => ?_)
    have hset : (a_w ad ca w).set r (ad r, .inr (c0, (fs.map (a_v ad)).set k (a_v ad v))) = a_w ad ca w' := by
      rw [h4, ← a_w_set _ h1, ← List.map_set]; rfl
    rw [hset] at hP1 hD1
    exact kk w' q hq l D ad ca p e s m args below meth c A Z hC hA hR H1 locs1 ls hP1 hD1 hS1 hl
theorem e_iald {r : Nat} {i : Int32} {g : Int32 → Option (τ × aW)} (hd : decode M.2.1 pc = .ok (.iaload, 1)) (kk : ∀ x, Ev rv M (pc + 1) L (.int x :: S) w (g x)) : Ev rv M pc L (.int i :: .ref r :: S) w ((gA w r i).bind g) := by
  intro q hq l D ad ca p e s m args below meth c A Z hC hA hR H locs ls hP hD hS hl
  unfold gA at hq
  cases hx : a_ia w r with
  | none => rw [hx] at hq; cases hq
  | some a =>
    rw [hx] at hq
    obtain ⟨h1, h2⟩ := a_ia_spec hx
    simp only [Option.bind_some] at hq
    by_cases hi : i < 0 ∨ a.1 ≤ i.toNatClampNeg
    · rw [if_pos hi] at hq; cases hq
    · rw [if_neg hi] at hq
      refine va_iald hC.1 hC.2.1 hC.2.2.2.2.2.2.2.2 hP r 0 (n := a.1) (f := a.2) ?_ rfl hi hd (kk _ q hq l D ad ca p e s m args below meth c A Z hC hA hR H locs ls hP hD hS hl)
      rw [a_w_get h1, h2]; rfl
theorem e_lald {r : Nat} {i : Int32} {g : Int64 → Option (τ × aW)} (hd : decode M.2.1 pc = .ok (.laload, 1)) (kk : ∀ x, Ev rv M (pc + 1) L (.long x :: S) w (g x)) : Ev rv M pc L (.int i :: .ref r :: S) w ((gL w r i).bind g) := by
  intro q hq l D ad ca p e s m args below meth c A Z hC hA hR H locs ls hP hD hS hl
  unfold gL at hq
  cases hx : a_la w r with
  | none => rw [hx] at hq; cases hq
  | some a =>
    rw [hx] at hq
    obtain ⟨h1, h2⟩ := a_la_spec hx
    simp only [Option.bind_some] at hq
    by_cases hi : i < 0 ∨ a.1 ≤ i.toNatClampNeg
    · rw [if_pos hi] at hq; cases hq
    · rw [if_neg hi] at hq
      refine va_lald hC.1 hC.2.1 hC.2.2.2.2.2.2.2.2 hP r 1 (n := a.1) (f := a.2) ?_ rfl hi hd (kk _ q hq l D ad ca p e s m args below meth c A Z hC hA hR H locs ls hP hD hS hl)
      rw [a_w_get h1, h2]; rfl
theorem e_aald {r : Nat} {i : Int32} {g : Option Nat → Option (τ × aW)} (hd : decode M.2.1 pc = .ok (.aaload, 1)) (kk : ∀ x : Option Nat, Ev rv M (pc + 1) L (va_rf x :: S) w (g x)) : Ev rv M pc L (.int i :: .ref r :: S) w ((gQ w r i).bind g) := by
  intro q hq l D ad ca p e s m args below meth c A Z hC hA hR H locs ls hP hD hS hl
  unfold gQ at hq
  cases hx : a_qa w r with
  | none => rw [hx] at hq; cases hq
  | some a =>
    rw [hx] at hq
    obtain ⟨h1, h2⟩ := a_qa_spec hx
    simp only [Option.bind_some] at hq
    by_cases hi : i < 0 ∨ a.1 ≤ i.toNatClampNeg
    · rw [if_pos hi] at hq; cases hq
    · rw [if_neg hi] at hq
      have hgo := kk _ q hq l D ad ca p e s m args below meth c A Z hC hA hR H locs ls hP hD hS hl
      have hv : a_v ad (va_rf (a.2 i.toNatClampNeg)) = va_rf ((a.2 i.toNatClampNeg).map ad) := by cases a.2 i.toNatClampNeg <;> rfl
      rw [List.map_cons, hv] at hgo
      refine va_aldq hC.1 hC.2.1 hC.2.2.2.2.2.2.2.2 hP r 2 (n := a.1) (f := fun j => (a.2 j).map ad) ?_ rfl hi hd hgo
      rw [a_w_get h1, h2]; rfl
theorem e_iast {r : Nat} {i x : Int32} {g : aW → Option (τ × aW)} (hd : decode M.2.1 pc = .ok (.iastore, 1)) (kk : ∀ w', Ev rv M (pc + 1) L S w' (g w')) : Ev rv M pc L (.int x :: .int i :: .ref r :: S) w ((sA w r i x).bind g) := by
  intro q hq l D ad ca p e s m args below meth c A Z hC hA hR H locs ls hP hD hS hl
  unfold sA at hq
  cases hx : a_ia w r with
  | none => rw [hx] at hq; cases hq
  | some a =>
    rw [hx] at hq
    obtain ⟨h1, h2⟩ := a_ia_spec hx
    simp only [Option.bind_some] at hq
    by_cases hi : i < 0 ∨ a.1 ≤ i.toNatClampNeg
    · rw [if_pos hi] at hq; cases hq
    · rw [if_neg hi] at hq
      refine va_iast hC.1 hC.2.1 hC.2.2.2.2.2.2.2.2 hP hD hS r 0 (n := a.1) (f := a.2) (by rw [a_w_get h1, h2]; rfl) rfl hi hd (fun H1 locs1 hP1 hD1 hS1 => ?_)
      have hset := a_w_set (ad := ad) (ca := ca) (w := w) (.inl (0, a.1, .inl (upd a.2 i.toNatClampNeg x))) h1
      have hP2 : va_P D a_cl (a_w ad ca (a_up w r (.inl (0, a.1, .inl (upd a.2 i.toNatClampNeg x))))) H1 := by rw [← hset]; exact hP1
      exact kk _ q hq l D ad ca p e s m args below meth c A Z hC hA hR H1 locs1 ls hP2 (a_w_D _ hD) hS1 hl
theorem e_last {r : Nat} {i : Int32} {x : Int64} {g : aW → Option (τ × aW)} (hd : decode M.2.1 pc = .ok (.lastore, 1)) (kk : ∀ w', Ev rv M (pc + 1) L S w' (g w')) : Ev rv M pc L (.long x :: .int i :: .ref r :: S) w ((sL w r i x).bind g) := by
  intro q hq l D ad ca p e s m args below meth c A Z hC hA hR H locs ls hP hD hS hl
  unfold sL at hq
  cases hx : a_la w r with
  | none => rw [hx] at hq; cases hq
  | some a =>
    rw [hx] at hq
    obtain ⟨h1, h2⟩ := a_la_spec hx
    simp only [Option.bind_some] at hq
    by_cases hi : i < 0 ∨ a.1 ≤ i.toNatClampNeg
    · rw [if_pos hi] at hq; cases hq
    · rw [if_neg hi] at hq
      refine va_last hC.1 hC.2.1 hC.2.2.2.2.2.2.2.2 hP hD hS r 1 (n := a.1) (f := a.2) (by rw [a_w_get h1, h2]; rfl) rfl hi hd (fun H1 locs1 hP1 hD1 hS1 => ?_)
      have hset := a_w_set (ad := ad) (ca := ca) (w := w) (.inl (1, a.1, .inr (.inl (vp_updL a.2 i.toNatClampNeg x)))) h1
      have hP2 : va_P D a_cl (a_w ad ca (a_up w r (.inl (1, a.1, .inr (.inl (vp_updL a.2 i.toNatClampNeg x)))))) H1 := by rw [← hset]; exact hP1
      exact kk _ q hq l D ad ca p e s m args below meth c A Z hC hA hR H1 locs1 ls hP2 (a_w_D _ hD) hS1 hl
theorem e_alen {r : Nat} {g : Int32 → Option (τ × aW)} (hd : decode M.2.1 pc = .ok (.arraylength, 1)) (kk : ∀ x, Ev rv M (pc + 1) L (.int x :: S) w (g x)) : Ev rv M pc L (.ref r :: S) w ((gN w r).bind g) := by
  intro q hq l D ad ca p e s m args below meth c A Z hC hA hR H locs ls hP hD hS hl
  unfold gN at hq
  cases hx : a_ia w r with
  | none => rw [hx] at hq; cases hq
  | some a =>
    rw [hx] at hq
    obtain ⟨h1, h2⟩ := a_ia_spec hx
    simp only [Option.map_some, Option.bind_some] at hq
    refine va_alen (x := (a.1, .inl a.2)) hC.1 hC.2.1 hC.2.2.2.2.2.2.2.2 hP r 0 ?_ (ty := .int) rfl rfl hd (kk _ q hq l D ad ca p e s m args below meth c A Z hC hA hR H locs ls hP hD hS hl)
    rw [a_w_get h1, h2]; rfl
theorem e_iret {x : Int32} (hd : decode M.2.1 pc = .ok (.ireturn, 1)) {ty : FieldType} (hr : M.2.2.2.1 = some ty) (hn : narrow ty (.int x) = .int x) : Ev rvI M pc L [.int x] w (some (x, w)) := by
  intro q hq l D ad ca p e s m args below meth c A Z hC hA hR
  cases hq
  exact hR pc L .ireturn hd ⟨rfl, ty, hr, hn⟩
theorem e_lret {x : Int64} (hd : decode M.2.1 pc = .ok (.lreturn, 1)) (hr : M.2.2.2.1 = some .long) : Ev rvL M pc L [.long x] w (some (x, w)) := by
  intro q hq l D ad ca p e s m args below meth c A Z hC hA hR
  cases hq
  exact hR pc L .lreturn hd ⟨rfl, hr⟩
theorem e_vret (hd : decode M.2.1 pc = .ok (.return_, 1)) (hr : M.2.2.2.1 = none) : Ev rvV M pc L [] w (some ((), w)) := by
  intro q hq l D ad ca p e s m args below meth c A Z hC hA hR
  cases hq
  exact hR pc L .return_ hd ⟨rfl, hr⟩
theorem e_aret {x : Option Nat} (hd : decode M.2.1 pc = .ok (.areturn, 1)) {n : String} (hr : M.2.2.2.1 = some (.object n)) : Ev rvR M pc L [va_rf x] w (some (x, w)) := by
  intro q hq l D ad ca p e s m args below meth c A Z hC hA hR
  cases hq
  refine hR pc L .areturn hd ?_
  cases x <;> exact ⟨rfl, n, hr⟩
end EW
theorem a_sum (ad : Nat → Nat) (S : List Value) : ((S.map (a_v ad)).map fun v => v.category).sum = (S.map fun v => v.category).sum := by
  rw [List.map_map]
  congr 1
  exact List.map_congr_left (fun v _ => a_cat ad v)
theorem a_blind {l : Launch} {D : va_G} {ad ca : Nat → Nat} {sz : Nat} {av : List Value} {w : aW} : FrameBlind (va_Pc av (fun U => U.heap.size = sz ∧ va_P D a_cl (a_w ad ca w) U.heap ∧ va_K D a_cl (a_tys ca) U ∧ va_D (fun _ => True) (a_w ad ca w) ∧ ∀ w ∈ a_Ns, va_Nw w U)) := by
  intro a U g mk q
  obtain ⟨q0, q1, qP, qK, qD, qN⟩ := q
  exact ⟨q0, q1, qP, va_K.moved (u := U) (U := U.calling g mk a) (Vm.Alike.refl U.vm) qK, qD, fun w hw => va_Nw.same (u := U) (U := U.calling g mk a) (a_NsOn hw) rfl (qN w hw)⟩
/-- behind a call -/
theorem a_back {τ' : Type} {rv' : τ' → Option Value} {q' : τ' × aW} {p : Program} {l : Launch} {e : Env} {R : Room} {s : State} {m : MethodId} {args : Array Value} {below : List Frame} {meth : Method} {c : Code} {H : Heap} {locs : List Loc} {Z : State → Prop} {D : va_G} {ad ca : Nat → Nat} {w : aW} {A : Nat → Prop} {pc : Nat} {ls : Array Slot} {st0 rest : List Value}
    (hrun : va_Run p l e R s m args below meth c H locs 0 0 0 0 (F0 m pc ls st0) rest (fun st oc t => (oc = .returned ((rv' q'.1).map (a_v ad)) ∧ va_P D a_cl (a_w ad ca q'.2) t.heap) ∧ va_F (va_A (a_w ad ca w) H.size) st t) (va_A (a_w ad ca w) H.size))
    (hD : va_D A (a_w ad ca w)) (hS : va_S A s.heap H locs) (hA : ∀ x : Nat, s.heap.size ≤ x → A x)
    (kk : ∀ (H1 : Heap) (locs1 : List Loc), va_P D a_cl (a_w ad ca q'.2) H1 → va_D A (a_w ad ca q'.2) → va_S A s.heap H1 locs1 → W p l e R s m args below meth c H1 locs1 0 0 Z (F0 m (pc + 3) ls (((rv' q'.1).map (a_v ad)).toList ++ rest))) : W p l e R s m args below meth c H locs 0 0 Z (F0 m pc ls st0) := by
  intro T hT X
  obtain ⟨v, st₀, t, T', Lc, h0, X', hL, e1, e2, ⟨⟨hv, hP1⟩, hz, hk⟩, st⟩ := hrun T hT X
  have hv' : v = (rv' q'.1).map (a_v ad) := Outcome.returned.inj hv
  subst hv'
  have hfree : ∀ q, va_A (a_w ad ca w) H.size q → A q := by
    intro q h
    rcases h with ⟨k, e, h⟩ | h
    · exact hD.2 k _ h
    · exact hA q (Nat.le_trans hS.1 h)
  rw [h0] at hz hk
  rw [← e1] at hz hk hP1
  obtain ⟨t2, a1, b1⟩ := kk T'.heap (locs ++ Lc) hP1 (a_w_D _ hD)
    ⟨Nat.le_trans hS.1 hz, fun q h1 h2 => by
      rw [hk q (Nat.lt_of_lt_of_le h1 hS.1) (fun z => h2 (hfree q z))]; exact hS.2.1 q h1 h2, fun q hq => by
      rcases List.mem_append.mp hq with h | h
      · exact hS.2.2 q h
      · exact hfree _ (hL q h)⟩ T' rfl X'
  exact ⟨t2, st t2 a1, b1⟩
theorem a_pre {l : Launch} {D : va_G} {ad ca : Nat → Nat} {av : List Value} {w : aW} {M : aM} {p : Program} {s : State} {m : MethodId} {args : Array Value} {meth : Method} {c : Code} {A : Nat → Prop} {H : Heap} (hC : a_Cx M D ca p s m args meth c) (hP : va_P D a_cl (a_w ad ca w) H) (hD : va_D A (a_w ad ca w)) :
    ∀ U : State, U.heap = H → s.WarmedH U.vm → va_Pc av (fun U => U.heap.size = H.size ∧ va_P D a_cl (a_w ad ca w) U.heap ∧ va_K D a_cl (a_tys ca) U ∧ va_D (fun _ => True) (a_w ad ca w) ∧ ∀ w ∈ a_Ns, va_Nw w U) av.toArray U :=
  fun U hU hW => ⟨rfl, by rw [hU], by rw [hU]; exact hP, va_K.moved hW.alike hC.2.2.2.2.2.2.2.2, hD.weaken (fun _ _ _ _ => trivial), a_NsW hW hC.2.2.2.2.2.2.1⟩
/-- behind a call: its answer and its world -/
def bk {α β : Type} (x : Option (α × aW)) (g : α → aW → Option β) : Option β := x.bind fun q => g q.1 q.2
/-- a reference or null -/
def oc {β : Type} (x : Option Nat) (n : β) (g : Nat → β) : β := match x with
  | none => n
  | some a => g a
section EC
variable {τ τ' : Type} {rv : τ → Option Value} {rv' : τ' → Option Value} {M M' : aM} {pc idx n : Nat} {L : List (Option Value)} {S S0 av : List Value} {w : aW} {o' : Option (τ' × aW)} {g : τ' → aW → Option (τ × aW)}
theorem a_cb {own : String} {s : State} {args : Array Value} {idx' : Nat} (hts : ∀ w ∈ a_T, w.before args s = true) (hM' : a_okM M' n) (hrm : a_rm M M') (hl : Cond.methodLink own idx' M'.1 ∈ a_T) : CallB (a_R M) s args own idx' M'.1 M'.2.1 M'.2.2.1 M'.2.2.2.1 (Cond.code M'.1 M'.2.1 M'.2.2.1 M'.2.2.2.1 :: a_T) (a_R M') 0 0 n := by
  refine ⟨rfl, rfl, hrm.1, hrm.2, ?_, List.mem_cons_self, hts _ hM'.2.2.1, hts _ hM'.2.2.2, hM'.1, fun sig h => ?_, hts _ hl⟩
  · exact pay_in hts (fun w hw => by
      rcases List.mem_cons.mp hw with h | h
      · subst h; exact a_good _ hM'.2.2.1
      · exact a_good _ h)
  · have h2 := hM'.2.1
    rw [h] at h2
    exact (Option.some.inj h2).symm
theorem e_callV {c0 b : Nat} {q0 : vw_C} (hc0 : a_cl[c0]? = some q0) (hcn : q0.1 = M'.1.cls) (hM' : a_okM M' n) (hrm : a_rm M M') (hk : a_okV M.1.cls M' idx) (hd : decode M.2.1 pc = .ok (.invokevirtual idx, 3)) (hs : Sp rv' M' (.ref b :: av) w o') (hn : av.length = n) (hst : S0 = av.reverse ++ .ref b :: S) (hroom : (S.map fun v => v.category).sum ≤ 8)
    (kk : ∀ (r : τ') (w' : aW), Ev rv M (pc + 3) L ((rv' r).toList ++ S) w' (g r w')) : Ev rv M pc L S0 w (cV c0 w b (bk o' g)) := by
  intro q hq l D ad ca p e s m args below meth c A Z hC hA hR H locs ls hP hD hS hl
  unfold cV at hq
  by_cases hO : a_isOb c0 w b = true
  · rw [if_pos hO] at hq
    cases ho : o' with
    | none => rw [ho] at hq; cases hq
    | some q' =>
      rw [ho] at hq
      obtain ⟨hb1, fs, hb2⟩ := a_isOb_spec hO
      have hts := hC.2.2.2.2.2.1
      have he : (a_w ad ca w)[b]? = some (ad b, .inr (c0, fs.map (a_v ad))) := by rw [a_w_get hb1, hb2]; rfl
      have hrecv := va_recv hC.2.2.2.2.2.2.2.2 hP hc0 he
      rw [hcn] at hrecv
      have hrun := va_runV (Ts := a_T) (b := ad b) (As := av.map (a_v ad)) (rest := S.map (a_v ad)) (g := F0 m pc ls (S0.map (a_v ad))) (nL := M.2.2.1) (H := H) (e := e) (meth := meth) (below := below) (locs := locs) (cells := 0) (slots := 0) ⟨hC.1, hC.2.1, hC.2.2.1, hC.2.2.2.2.1, hts⟩ (hs q' ho l D ad ca H.size) ⟨a_cb hts hM' hrm hk.1, hts _ hk.2.1, hts _ hk.2.2⟩ ⟨a_blind (l := l), hrecv, a_pre (l := l) (av := .ref (ad b) :: av.map (a_v ad)) hC hP hD⟩ rfl (by rw [List.length_map]; exact hn) hl.1 (by show S0.map (a_v ad) = _; rw [hst, List.map_append, List.map_reverse]; rfl) (lv_room (by rw [a_sum]; exact hroom)) hd ⟨Nat.le_refl _, Nat.le_refl _⟩
      refine a_back (rv' := rv') hrun hD hS hA (fun H1 locs1 hP1 hD1 hS1 => ?_)
      have hgo := kk q'.1 q'.2 q hq l D ad ca p e s m args below meth c A Z hC hA hR H1 locs1 ls hP1 hD1 hS1 hl
      rw [List.map_append] at hgo
      have h9 : ((rv' q'.1).toList).map (a_v ad) = ((rv' q'.1).map (a_v ad)).toList := by cases rv' q'.1 <;> rfl
      rw [h9] at hgo
      exact hgo
  · rw [if_neg hO] at hq; cases hq
theorem e_callS (hM' : a_okM M' n) (hrm : a_rm M M') (hk : a_okS M.1.cls M' idx) (hd : decode M.2.1 pc = .ok (.invokestatic idx, 3)) (hs : Sp rv' M' av w o') (hn : av.length = n) (hst : S0 = av.reverse ++ S) (hroom : (S.map fun v => v.category).sum ≤ 8)
    (kk : ∀ (r : τ') (w' : aW), Ev rv M (pc + 3) L ((rv' r).toList ++ S) w' (g r w')) : Ev rv M pc L S0 w (bk o' g) := by
  intro q hq l D ad ca p e s m args below meth c A Z hC hA hR H locs ls hP hD hS hl
  cases ho : o' with
  | none => rw [ho] at hq; cases hq
  | some q' =>
    rw [ho] at hq
    have hts := hC.2.2.2.2.2.1
    have hrun := va_runS (Ts := a_T) (As := av.map (a_v ad)) (rest := S.map (a_v ad)) (g := F0 m pc ls (S0.map (a_v ad))) (nL := M.2.2.1) (H := H) (e := e) (meth := meth) (below := below) (locs := locs) (cells := 0) (slots := 0) ⟨hC.1, hC.2.1, hC.2.2.1, hC.2.2.2.2.1, hts⟩ (hs q' ho l D ad ca H.size) ⟨a_cb hts hM' hrm hk.1, hts _ hk.2⟩ ⟨a_blind (l := l), a_pre (l := l) (av := av.map (a_v ad)) hC hP hD⟩ rfl (by rw [List.length_map]; exact hn) hl.1 (by show S0.map (a_v ad) = _; rw [hst, List.map_append, List.map_reverse]) (lv_room (by rw [a_sum]; exact hroom)) hd ⟨Nat.le_refl _, Nat.le_refl _⟩
    refine a_back (rv' := rv') hrun hD hS hA (fun H1 locs1 hP1 hD1 hS1 => ?_)
    have hgo := kk q'.1 q'.2 q hq l D ad ca p e s m args below meth c A Z hC hA hR H1 locs1 ls hP1 hD1 hS1 hl
    rw [List.map_append] at hgo
    have h9 : ((rv' q'.1).toList).map (a_v ad) = ((rv' q'.1).map (a_v ad)).toList := by cases rv' q'.1 <;> rfl
    rw [h9] at hgo
    exact hgo
theorem e_callN (hM' : a_okM M' n) (hrm : a_rm M M') (hk : a_okN M.1.cls M' idx) (hd : decode M.2.1 pc = .ok (.invokestatic idx, 3)) (hs : Sp rv' M' av w o') (hn : av.length = n) (hst : S0 = av.reverse ++ S) (hroom : (S.map fun v => v.category).sum ≤ 8)
    (kk : ∀ (r : τ') (w' : aW), Ev rv M (pc + 3) L ((rv' r).toList ++ S) w' (g r w')) : Ev rv M pc L S0 w (bk o' g) := by
  intro q hq l D ad ca p e s m args below meth c A Z hC hA hR H locs ls hP hD hS hl
  cases ho : o' with
  | none => rw [ho] at hq; cases hq
  | some q' =>
    rw [ho] at hq
    have hts := hC.2.2.2.2.2.1
    obtain ⟨⟨host, hh⟩, hst2⟩ := hk
    have hcn : va_CN (a_R M) s args M.1.cls idx M'.1 host M'.2.1 M'.2.2.1 M'.2.2.2.1 (Cond.code M'.1 M'.2.1 M'.2.2.1 M'.2.2.2.1 :: a_T) (a_R M') 0 0 n :=
      ⟨⟨rfl, rfl, hrm.1, hrm.2, pay_in hts (fun w hw => by
        rcases List.mem_cons.mp hw with h | h
        · subst h; exact a_good _ hM'.2.2.1
        · exact a_good _ h), List.mem_cons_self⟩, hts _ hM'.2.2.1, hts _ hM'.2.2.2, hM'.1, fun sig h => by
          have h2 := hM'.2.1
          rw [h] at h2
          exact (Option.some.inj h2).symm, va_Nw.use (a_NsOn hh) (hC.2.2.2.2.2.2.1 _ hh)⟩
    have hrun := va_runSN (Ts := a_T) (As := av.map (a_v ad)) (rest := S.map (a_v ad)) (g := F0 m pc ls (S0.map (a_v ad))) (nL := M.2.2.1) (H := H) (e := e) (meth := meth) (below := below) (locs := locs) (cells := 0) (slots := 0) ⟨hC.1, hC.2.1, hC.2.2.1, hC.2.2.2.2.1, hts⟩ (hs q' ho l D ad ca H.size) ⟨hcn, hts _ hst2, trivial⟩ ⟨a_blind (l := l), a_pre (l := l) (av := av.map (a_v ad)) hC hP hD⟩ rfl (by rw [List.length_map]; exact hn) hl.1 (by show S0.map (a_v ad) = _; rw [hst, List.map_append, List.map_reverse]) (lv_room (by rw [a_sum]; exact hroom)) hd ⟨Nat.le_refl _, Nat.le_refl _⟩
    refine a_back (rv' := rv') hrun hD hS hA (fun H1 locs1 hP1 hD1 hS1 => ?_)
    have hgo := kk q'.1 q'.2 q hq l D ad ca p e s m args below meth c A Z hC hA hR H1 locs1 ls hP1 hD1 hS1 hl
    rw [List.map_append] at hgo
    have h9 : ((rv' q'.1).toList).map (a_v ad) = ((rv' q'.1).map (a_v ad)).toList := by cases rv' q'.1 <;> rfl
    rw [h9] at hgo
    exact hgo
/-- System.arraycopy of ints -/
theorem e_copy {r0 r1 : Nat} {sp dp k : Int32} {S : List Value} {g : aW → Option (τ × aW)} (hfr : 1 ≤ M.2.2.2.2.1) (hlo : (S.map fun v => v.category).sum + (nativeFrameWords "java/lang/System" "arraycopy" 5 + 11) ≤ M.2.2.2.2.2) (hw : Cond.methodLink M.1.cls idx arraycopyName ∈ a_T ∧ Cond.native arraycopyName ∈ a_T ∧ Cond.static arraycopyName ∈ a_T ∧ Cond.initialized "java/lang/System" ∈ a_T) (hd : decode M.2.1 pc = .ok (.invokestatic idx, 3))
    (kk : ∀ w', Ev rv M (pc + 3) L S w' (g w')) : Ev rv M pc L (.int k :: .int dp :: .ref r1 :: .int sp :: .ref r0 :: S) w ((cpI w r0 sp r1 dp k).bind g) := by
  intro q hq l D ad ca p e s m args below meth c A Z hC hA hR H locs ls hP hD hS hl
  unfold cpI at hq
  cases hx : a_ia w r0 with
  | none => rw [hx] at hq; cases hq
  | some a =>
    cases hy : a_ia w r1 with
    | none => rw [hx, hy] at hq; cases hq
    | some b =>
      rw [hx, hy] at hq
      obtain ⟨h1, h2⟩ := a_ia_spec hx
      obtain ⟨h3, h4⟩ := a_ia_spec hy
      simp only [Option.bind_some] at hq
      by_cases hi : sp < 0 ∨ dp < 0 ∨ k < 0 ∨ a.1 < sp.toNatClampNeg + k.toNatClampNeg ∨ b.1 < dp.toNatClampNeg + k.toNatClampNeg
      · rw [if_pos hi] at hq; cases hq
      · rw [if_neg hi] at hq
        have hts := hC.2.2.2.2.2.1
        refine va_copyi hC.1 hC.2.1 (hC.2.2.1.trans hl.1.symm) hC.2.2.2.2.1 (hts _ hw.1) (hts _ hw.2.1) (hts _ hw.2.2.1) (hts _ hw.2.2.2) hC.2.2.2.2.2.2.2.2 hP hD hS r0 r1 0 0 (n0 := a.1) (n1 := b.1) (f := a.2) (g := b.2) (ty := .int) (by rw [a_w_get h1, h2]; rfl) (by rw [a_w_get h3, h4]; rfl) rfl rfl rfl (fun h => hi (Or.inl h)) (fun h => hi (Or.inr (Or.inl h))) (fun h => hi (Or.inr (Or.inr (Or.inl h)))) (Nat.not_lt.mp fun h => hi (Or.inr (Or.inr (Or.inr (Or.inl h))))) (Nat.not_lt.mp fun h => hi (Or.inr (Or.inr (Or.inr (Or.inr h))))) (fun _ _ => rfl) hfr (by rw [a_sum]; exact hlo) hd (fun H1 locs1 hP1 hD1 hS1 => ?_)
        have hset := a_w_set (ad := ad) (ca := ca) (w := w) (.inl (0, b.1, .inl (va_cpy a.2 b.2 sp.toNatClampNeg dp.toNatClampNeg k.toNatClampNeg))) h3
        have hP2 : va_P D a_cl (a_w ad ca (a_up w r1 (.inl (0, b.1, .inl (va_cpy a.2 b.2 sp.toNatClampNeg dp.toNatClampNeg k.toNatClampNeg))))) H1 := by rw [← hset]; exact hP1
        exact kk _ q hq l D ad ca p e s m args below meth c A Z hC hA hR H1 locs1 ls hP2 (a_w_D _ hD) hS1 hl
end EC
/-- a method's contract out of the walk of its body -/
theorem e_entry {τ : Type} {rv : τ → Option Value} {M : aM} {av : List Value} {w : aW} {o : Option (τ × aW)} (L : List (Option Value)) (hy : plainName M.1.cls = true) (hlen : (lg_sl av).length ≤ M.2.2.1) (hL : ∀ ad : Nat → Nat, a_l ad 0 L = lv_args 0 (av.map (a_v ad))) (k : Ev rv M 0 L [] w o) : Sp rv M av w o := by
  intro q hq l D ad ca sz
  refine Met.ofW (cc := M.2.1) (maxL := M.2.2.1) (ret := M.2.2.2.1) hy rfl ?_
  intro p e s m args below meth c s₁ B hml hv
  obtain ⟨rfl, hsz, hP, hK, hD0, hN⟩ := hv
  have hts : ∀ w ∈ (Cond.code M.1 M.2.1 M.2.2.1 M.2.2.2.1 :: a_T), w.before (av.map (a_v ad)).toArray s = true := atoms_spec (ws := Cond.code M.1 M.2.1 M.2.2.1 M.2.2.2.1 :: a_T) B.pre
  subst hsz
  have hC : a_Cx M D ca p s m (av.map (a_v ad)).toArray meth c := ⟨B.exec, B.bytes, hml, B.returns, findClass_of_methodNamed B.named, fun w hw => hts w (List.mem_cons_of_mem _ hw), hN, B.notSynchronized, hK⟩
  have hA : ∀ x : Nat, s.heap.size ≤ x → va_A (a_w ad ca w) s.heap.size x := fun x h => Or.inr h
  have hlen2 : (lg_sl (av.map (a_v ad))).length ≤ M.2.2.1 := by
    have : ∀ vs : List Value, (lg_sl (vs.map (a_v ad))).length = (lg_sl vs).length := by
      intro vs
      induction vs with
      | nil => rfl
      | cons v t ih =>
        simp only [List.map_cons, lg_sl, List.flatMap_cons, List.length_append] at ih ⊢
        rw [ih, a_cat]
        by_cases h2 : v.category = 2 <;> simp [h2]
    rw [this]; exact hlen
  have hl := lv_entry (av.map (a_v ad)) hlen2
  rw [← hL ad] at hl
  rw [lg_entry_eq]
  refine k q hq l D ad ca p e s m (av.map (a_v ad)).toArray below meth c (va_A (a_w ad ca w) s.heap.size) _ hC hA ?_ s.heap [] _ hP hD0.self va_S.rf hl
  intro pc' L' i hd hi H locs ls hP1 hD1 hS1 hl1
  have hlocks := B.notSynchronized
  have hfin : ∀ t : State, t.heap = H → s.WarmedH t.vm → (va_P D a_cl (a_w ad ca q.2) t.heap) ∧ va_F (va_A (a_w ad ca w) s.heap.size) s t := fun t ht _ => ⟨by rw [ht]; exact hP1, hS1.F ht⟩
  match hr : rv q.1 with
  | none =>
    rw [hr] at hi
    obtain ⟨rfl, h2⟩ := hi
    exact W.vret B.exec B.bytes (B.returns.trans h2) (fun t ht hW => ⟨⟨rfl, (hfin t ht hW).1⟩, (hfin t ht hW).2⟩) hS1.2.2 hd
  | some (.int x) =>
    rw [hr] at hi
    obtain ⟨rfl, ty, h2, h3⟩ := hi
    exact W.zret B.exec B.bytes (B.returns.trans h2) h3 (fun t ht hW => ⟨⟨rfl, (hfin t ht hW).1⟩, (hfin t ht hW).2⟩) hS1.2.2 hd
  | some (.long x) =>
    rw [hr] at hi
    obtain ⟨rfl, h2⟩ := hi
    exact W.lret B.exec B.bytes (B.returns.trans h2) (fun t ht hW => ⟨⟨rfl, (hfin t ht hW).1⟩, (hfin t ht hW).2⟩) hS1.2.2 hd
  | some (.ref x) =>
    rw [hr] at hi
    obtain ⟨rfl, n, h2⟩ := hi
    exact W.aret B.exec B.bytes (B.returns.trans h2) (Or.inl ⟨n, rfl⟩) (Or.inr ⟨_, rfl⟩) (fun t ht hW => ⟨⟨rfl, (hfin t ht hW).1⟩, (hfin t ht hW).2⟩) hS1.2.2 hd
  | some .null =>
    rw [hr] at hi
    obtain ⟨rfl, n, h2⟩ := hi
    exact W.aret B.exec B.bytes (B.returns.trans h2) (Or.inl ⟨n, rfl⟩) (Or.inl rfl) (fun t ht hW => ⟨⟨rfl, (hfin t ht hW).1⟩, (hfin t ht hW).2⟩) hS1.2.2 hd
  | some (.float x) => rw [hr] at hi; exact hi.elim
  | some (.double x) => rw [hr] at hi; exact hi.elim
  | some (.retAddr x) => rw [hr] at hi; exact hi.elim


abbrev a_fuel : Nat := 1000
theorem a_nb {x : Int32} (h : x = 0 ∨ x = 1) : narrow .boolean (.int x) = .int x := by
  rcases h with h | h <;> subst h <;> rfl
theorem a_fb {x : Int32} (h : x = 0 ∨ x = 1) : fits .boolean (.int x) = true := by
  rcases h with h | h <;> subst h <;> rfl
theorem tin_X0 : ∀ w ∈ u_ws RX0 TX0 13, w ∈ a_T := fun w h => List.mem_filter.mpr ⟨(by decide +kernel : ∀ w ∈ u_ws RX0 TX0 13, w ∈ lw_tbl) w h, (by decide +kernel : ∀ w ∈ u_ws RX0 TX0 13, goodWord w = true) w h⟩
theorem tin_X1 : ∀ w ∈ u_ws RX1 TX1 6, w ∈ a_T := fun w h => List.mem_filter.mpr ⟨(by decide +kernel : ∀ w ∈ u_ws RX1 TX1 6, w ∈ lw_tbl) w h, (by decide +kernel : ∀ w ∈ u_ws RX1 TX1 6, goodWord w = true) w h⟩
theorem tin_X3 : ∀ w ∈ u_ws RX3 TX3 7, w ∈ a_T := fun w h => List.mem_filter.mpr ⟨(by decide +kernel : ∀ w ∈ u_ws RX3 TX3 7, w ∈ lw_tbl) w h, (by decide +kernel : ∀ w ∈ u_ws RX3 TX3 7, goodWord w = true) w h⟩
theorem tin_X4 : ∀ w ∈ u_ws RX4 TX4 37, w ∈ a_T := fun w h => List.mem_filter.mpr ⟨(by decide +kernel : ∀ w ∈ u_ws RX4 TX4 37, w ∈ lw_tbl) w h, (by decide +kernel : ∀ w ∈ u_ws RX4 TX4 37, goodWord w = true) w h⟩
def a_le : List (Option Value) → List (Option Value) → Prop
  | [], _ => True
  | none :: t, _ :: u => a_le t u
  | some v :: t, x :: u => x = some v ∧ a_le t u
  | _ :: _, [] => False
theorem a_le_out : ∀ (L2 L : List (Option Value)) (j : Nat) (v : Value), a_le L2 L → L2[j]? = some (some v) → L[j]? = some (some v)
  | [], _, j, v, _, h => by simp at h
  | none :: t, x :: u, 0, v, _, h => by simp at h
  | none :: t, x :: u, j + 1, v, hl, h => by
    have := a_le_out t u j v hl (by simpa using h)
    simpa using this
  | some y :: t, x :: u, 0, v, hl, h => by
    have h1 : y = v := by simpa using h
    subst h1
    have := hl.1
    simpa using this
  | some y :: t, x :: u, j + 1, v, hl, h => by
    have := a_le_out t u j v hl.2 (by simpa using h)
    simpa using this
  | none :: t, [], j, v, hl, h => hl.elim
  | some y :: t, [], j, v, hl, h => hl.elim
section EX
variable {τ : Type} {rv : τ → Option Value} {M : aM} {pc : Nat} {L : List (Option Value)} {S : List Value} {w : aW} {o : Option (τ × aW)}
/-- locals that nobody reads again -/
theorem e_forget {L2 : List (Option Value)} (h : a_le L2 L) (k : Ev rv M pc L2 S w o) : Ev rv M pc L S w o := by
  intro q hq l D ad ca p e s m args below meth c A Z hC hA hR H locs ls hP hD hS hl
  refine k q hq l D ad ca p e s m args below meth c A Z hC hA hR H locs ls hP hD hS ⟨hl.1, hl.2.1, fun x hx => ?_⟩
  obtain ⟨j, v, h1, h2⟩ := a_l_out _ _ _ hx
  rw [h1]
  exact hl.2.2 _ (a_l_mem L 0 j v (a_le_out L2 L j v h h2))
theorem e_ite {cnd : Prop} [Decidable cnd] {o1 o2 : Option (τ × aW)} (kt : cnd → Ev rv M pc L S w o1) (kf : ¬ cnd → Ev rv M pc L S w o2) : Ev rv M pc L S w (if cnd then o1 else o2) := by
  by_cases h : cnd
  · rw [if_pos h]; exact kt h
  · rw [if_neg h]; exact kf h
theorem e_oc {x : Option Nat} {n : Option (τ × aW)} {g : Nat → Option (τ × aW)} (kn : x = none → Ev rv M pc L (.null :: S) w n) (ks : ∀ a, x = some a → Ev rv M pc L (.ref a :: S) w (g a)) : Ev rv M pc L (va_rf x :: S) w (oc x n g) := by
  cases x with
  | none => exact kn rfl
  | some a => exact ks a rfl
theorem e_tabIn {dflt lo hi : Int} {offs : Array Int} {len : Nat} {x v : Int32} {j off : Int} {tgt : Nat} (hd : decode M.2.1 pc = .ok (.tableswitch dflt lo hi offs, len)) (hx : x = v) (hv : v.toInt = j) (h1 : ¬ j < lo) (h2 : ¬ hi < j) (ho : offs[(j - lo).toNat]? = some off) (ht : (pc : Int) + off = (tgt : Int)) (k : Ev rv M tgt L S w o) : Ev rv M pc L (.int x :: S) w o := by
  subst hx; subst hv
  intro q hq l D ad ca p e s m args below meth c A Z hC hA hR H locs ls hP hD hS hl
  exact lv_tableIn hC.1 hC.2.1 hd h1 h2 ho ht (k q hq l D ad ca p e s m args below meth c A Z hC hA hR H locs ls hP hD hS hl)
theorem e_tabOut {dflt lo hi : Int} {offs : Array Int} {len : Nat} {x : Int32} {tgt : Nat} (hd : decode M.2.1 pc = .ok (.tableswitch dflt lo hi offs, len)) (h : x.toInt < lo ∨ hi < x.toInt) (ht : (pc : Int) + dflt = (tgt : Int)) (k : Ev rv M tgt L S w o) : Ev rv M pc L (.int x :: S) w o := by
  intro q hq l D ad ca p e s m args below meth c A Z hC hA hR H locs ls hP hD hS hl
  exact lv_tableOut hC.1 hC.2.1 hd h ht (k q hq l D ad ca p e s m args below meth c A Z hC hA hR H locs ls hP hD hS hl)
theorem e_lookIn {dflt : Int} {ps : Array (Int × Int)} {len : Nat} {x v : Int32} {off : Int} {tgt : Nat} (hd : decode M.2.1 pc = .ok (.lookupswitch dflt ps, len)) (hp : (ps.toList.zip (ps.toList.drop 1)).all (fun (a, next) => a.1 < next.1) = true) (hx : x = v) (ho : Op.lookupswitch.offset ps.toList dflt v.toInt = off) (ht : (pc : Int) + off = (tgt : Int)) (k : Ev rv M tgt L S w o) : Ev rv M pc L (.int x :: S) w o := by
  subst hx
  intro q hq l D ad ca p e s m args below meth c A Z hC hA hR H locs ls hP hD hS hl
  exact lv_lookup hC.1 hC.2.1 hd hp ho ht (k q hq l D ad ca p e s m args below meth c A Z hC hA hR H locs ls hP hD hS hl)
theorem e_lookOut {dflt : Int} {ps : Array (Int × Int)} {len : Nat} {x : Int32} {off : Int} {tgt : Nat} (hd : decode M.2.1 pc = .ok (.lookupswitch dflt ps, len)) (hp : (ps.toList.zip (ps.toList.drop 1)).all (fun (a, next) => a.1 < next.1) = true) (ho : Op.lookupswitch.offset ps.toList dflt x.toInt = off) (ht : (pc : Int) + off = (tgt : Int)) (k : Ev rv M tgt L S w o) : Ev rv M pc L (.int x :: S) w o := by
  intro q hq l D ad ca p e s m args below meth c A Z hC hA hR H locs ls hP hD hS hl
  exact lv_lookup hC.1 hC.2.1 hd hp ho ht (k q hq l D ad ca p e s m args below meth c A Z hC hA hR H locs ls hP hD hS hl)
theorem e_if_eq_T {x : Int32} {off : Int} {tgt : Nat} (hd : decode M.2.1 pc = .ok (.ifCond .eq off, 3)) (ht : (pc : Int) + off = (tgt : Int)) (h : x = 0) (k : Ev rv M tgt L S w o) : Ev rv M pc L (.int x :: S) w o := by
  have := e_if_eq (o2 := none) hd ht (fun _ => k) (fun z => absurd h z)
  rw [if_pos h] at this
  exact this
theorem e_if_eq_F {x : Int32} {off : Int} {tgt : Nat} (hd : decode M.2.1 pc = .ok (.ifCond .eq off, 3)) (ht : (pc : Int) + off = (tgt : Int)) (h : ¬ (x = 0)) (k : Ev rv M (pc + 3) L S w o) : Ev rv M pc L (.int x :: S) w o := by
  have := e_if_eq (o1 := none) hd ht (fun z => absurd z h) (fun _ => k)
  rw [if_neg h] at this
  exact this
theorem e_icmp_eq_T {x y : Int32} {off : Int} {tgt : Nat} (hd : decode M.2.1 pc = .ok (.if_icmp .eq off, 3)) (ht : (pc : Int) + off = (tgt : Int)) (h : x = y) (k : Ev rv M tgt L S w o) : Ev rv M pc L (.int y :: .int x :: S) w o := by
  have := e_icmp_eq (o2 := none) hd ht (fun _ => k) (fun z => absurd h z)
  rw [if_pos h] at this
  exact this
theorem e_icmp_eq_F {x y : Int32} {off : Int} {tgt : Nat} (hd : decode M.2.1 pc = .ok (.if_icmp .eq off, 3)) (ht : (pc : Int) + off = (tgt : Int)) (h : ¬ (x = y)) (k : Ev rv M (pc + 3) L S w o) : Ev rv M pc L (.int y :: .int x :: S) w o := by
  have := e_icmp_eq (o1 := none) hd ht (fun z => absurd z h) (fun _ => k)
  rw [if_neg h] at this
  exact this
theorem e_if_ne_T {x : Int32} {off : Int} {tgt : Nat} (hd : decode M.2.1 pc = .ok (.ifCond .ne off, 3)) (ht : (pc : Int) + off = (tgt : Int)) (h : ¬ x = 0) (k : Ev rv M tgt L S w o) : Ev rv M pc L (.int x :: S) w o := by
  have := e_if_ne (o2 := none) hd ht (fun _ => k) (fun z => absurd h z)
  rw [if_pos h] at this
  exact this
theorem e_if_ne_F {x : Int32} {off : Int} {tgt : Nat} (hd : decode M.2.1 pc = .ok (.ifCond .ne off, 3)) (ht : (pc : Int) + off = (tgt : Int)) (h : ¬ (¬ x = 0)) (k : Ev rv M (pc + 3) L S w o) : Ev rv M pc L (.int x :: S) w o := by
  have := e_if_ne (o1 := none) hd ht (fun z => absurd z h) (fun _ => k)
  rw [if_neg h] at this
  exact this
theorem e_icmp_ne_T {x y : Int32} {off : Int} {tgt : Nat} (hd : decode M.2.1 pc = .ok (.if_icmp .ne off, 3)) (ht : (pc : Int) + off = (tgt : Int)) (h : ¬ x = y) (k : Ev rv M tgt L S w o) : Ev rv M pc L (.int y :: .int x :: S) w o := by
  have := e_icmp_ne (o2 := none) hd ht (fun _ => k) (fun z => absurd h z)
  rw [if_pos h] at this
  exact this
theorem e_icmp_ne_F {x y : Int32} {off : Int} {tgt : Nat} (hd : decode M.2.1 pc = .ok (.if_icmp .ne off, 3)) (ht : (pc : Int) + off = (tgt : Int)) (h : ¬ (¬ x = y)) (k : Ev rv M (pc + 3) L S w o) : Ev rv M pc L (.int y :: .int x :: S) w o := by
  have := e_icmp_ne (o1 := none) hd ht (fun z => absurd z h) (fun _ => k)
  rw [if_neg h] at this
  exact this
theorem e_if_lt_T {x : Int32} {off : Int} {tgt : Nat} (hd : decode M.2.1 pc = .ok (.ifCond .lt off, 3)) (ht : (pc : Int) + off = (tgt : Int)) (h : x < 0) (k : Ev rv M tgt L S w o) : Ev rv M pc L (.int x :: S) w o := by
  have := e_if_lt (o2 := none) hd ht (fun _ => k) (fun z => absurd h z)
  rw [if_pos h] at this
  exact this
theorem e_if_lt_F {x : Int32} {off : Int} {tgt : Nat} (hd : decode M.2.1 pc = .ok (.ifCond .lt off, 3)) (ht : (pc : Int) + off = (tgt : Int)) (h : ¬ (x < 0)) (k : Ev rv M (pc + 3) L S w o) : Ev rv M pc L (.int x :: S) w o := by
  have := e_if_lt (o1 := none) hd ht (fun z => absurd z h) (fun _ => k)
  rw [if_neg h] at this
  exact this
theorem e_icmp_lt_T {x y : Int32} {off : Int} {tgt : Nat} (hd : decode M.2.1 pc = .ok (.if_icmp .lt off, 3)) (ht : (pc : Int) + off = (tgt : Int)) (h : x < y) (k : Ev rv M tgt L S w o) : Ev rv M pc L (.int y :: .int x :: S) w o := by
  have := e_icmp_lt (o2 := none) hd ht (fun _ => k) (fun z => absurd h z)
  rw [if_pos h] at this
  exact this
theorem e_icmp_lt_F {x y : Int32} {off : Int} {tgt : Nat} (hd : decode M.2.1 pc = .ok (.if_icmp .lt off, 3)) (ht : (pc : Int) + off = (tgt : Int)) (h : ¬ (x < y)) (k : Ev rv M (pc + 3) L S w o) : Ev rv M pc L (.int y :: .int x :: S) w o := by
  have := e_icmp_lt (o1 := none) hd ht (fun z => absurd z h) (fun _ => k)
  rw [if_neg h] at this
  exact this
theorem e_if_ge_T {x : Int32} {off : Int} {tgt : Nat} (hd : decode M.2.1 pc = .ok (.ifCond .ge off, 3)) (ht : (pc : Int) + off = (tgt : Int)) (h : 0 ≤ x) (k : Ev rv M tgt L S w o) : Ev rv M pc L (.int x :: S) w o := by
  have := e_if_ge (o2 := none) hd ht (fun _ => k) (fun z => absurd h z)
  rw [if_pos h] at this
  exact this
theorem e_if_ge_F {x : Int32} {off : Int} {tgt : Nat} (hd : decode M.2.1 pc = .ok (.ifCond .ge off, 3)) (ht : (pc : Int) + off = (tgt : Int)) (h : ¬ (0 ≤ x)) (k : Ev rv M (pc + 3) L S w o) : Ev rv M pc L (.int x :: S) w o := by
  have := e_if_ge (o1 := none) hd ht (fun z => absurd z h) (fun _ => k)
  rw [if_neg h] at this
  exact this
theorem e_icmp_ge_T {x y : Int32} {off : Int} {tgt : Nat} (hd : decode M.2.1 pc = .ok (.if_icmp .ge off, 3)) (ht : (pc : Int) + off = (tgt : Int)) (h : y ≤ x) (k : Ev rv M tgt L S w o) : Ev rv M pc L (.int y :: .int x :: S) w o := by
  have := e_icmp_ge (o2 := none) hd ht (fun _ => k) (fun z => absurd h z)
  rw [if_pos h] at this
  exact this
theorem e_icmp_ge_F {x y : Int32} {off : Int} {tgt : Nat} (hd : decode M.2.1 pc = .ok (.if_icmp .ge off, 3)) (ht : (pc : Int) + off = (tgt : Int)) (h : ¬ (y ≤ x)) (k : Ev rv M (pc + 3) L S w o) : Ev rv M pc L (.int y :: .int x :: S) w o := by
  have := e_icmp_ge (o1 := none) hd ht (fun z => absurd z h) (fun _ => k)
  rw [if_neg h] at this
  exact this
theorem e_if_gt_T {x : Int32} {off : Int} {tgt : Nat} (hd : decode M.2.1 pc = .ok (.ifCond .gt off, 3)) (ht : (pc : Int) + off = (tgt : Int)) (h : 0 < x) (k : Ev rv M tgt L S w o) : Ev rv M pc L (.int x :: S) w o := by
  have := e_if_gt (o2 := none) hd ht (fun _ => k) (fun z => absurd h z)
  rw [if_pos h] at this
  exact this
theorem e_if_gt_F {x : Int32} {off : Int} {tgt : Nat} (hd : decode M.2.1 pc = .ok (.ifCond .gt off, 3)) (ht : (pc : Int) + off = (tgt : Int)) (h : ¬ (0 < x)) (k : Ev rv M (pc + 3) L S w o) : Ev rv M pc L (.int x :: S) w o := by
  have := e_if_gt (o1 := none) hd ht (fun z => absurd z h) (fun _ => k)
  rw [if_neg h] at this
  exact this
theorem e_icmp_gt_T {x y : Int32} {off : Int} {tgt : Nat} (hd : decode M.2.1 pc = .ok (.if_icmp .gt off, 3)) (ht : (pc : Int) + off = (tgt : Int)) (h : y < x) (k : Ev rv M tgt L S w o) : Ev rv M pc L (.int y :: .int x :: S) w o := by
  have := e_icmp_gt (o2 := none) hd ht (fun _ => k) (fun z => absurd h z)
  rw [if_pos h] at this
  exact this
theorem e_icmp_gt_F {x y : Int32} {off : Int} {tgt : Nat} (hd : decode M.2.1 pc = .ok (.if_icmp .gt off, 3)) (ht : (pc : Int) + off = (tgt : Int)) (h : ¬ (y < x)) (k : Ev rv M (pc + 3) L S w o) : Ev rv M pc L (.int y :: .int x :: S) w o := by
  have := e_icmp_gt (o1 := none) hd ht (fun z => absurd z h) (fun _ => k)
  rw [if_neg h] at this
  exact this
theorem e_if_le_T {x : Int32} {off : Int} {tgt : Nat} (hd : decode M.2.1 pc = .ok (.ifCond .le off, 3)) (ht : (pc : Int) + off = (tgt : Int)) (h : x ≤ 0) (k : Ev rv M tgt L S w o) : Ev rv M pc L (.int x :: S) w o := by
  have := e_if_le (o2 := none) hd ht (fun _ => k) (fun z => absurd h z)
  rw [if_pos h] at this
  exact this
theorem e_if_le_F {x : Int32} {off : Int} {tgt : Nat} (hd : decode M.2.1 pc = .ok (.ifCond .le off, 3)) (ht : (pc : Int) + off = (tgt : Int)) (h : ¬ (x ≤ 0)) (k : Ev rv M (pc + 3) L S w o) : Ev rv M pc L (.int x :: S) w o := by
  have := e_if_le (o1 := none) hd ht (fun z => absurd z h) (fun _ => k)
  rw [if_neg h] at this
  exact this
theorem e_icmp_le_T {x y : Int32} {off : Int} {tgt : Nat} (hd : decode M.2.1 pc = .ok (.if_icmp .le off, 3)) (ht : (pc : Int) + off = (tgt : Int)) (h : x ≤ y) (k : Ev rv M tgt L S w o) : Ev rv M pc L (.int y :: .int x :: S) w o := by
  have := e_icmp_le (o2 := none) hd ht (fun _ => k) (fun z => absurd h z)
  rw [if_pos h] at this
  exact this
theorem e_icmp_le_F {x y : Int32} {off : Int} {tgt : Nat} (hd : decode M.2.1 pc = .ok (.if_icmp .le off, 3)) (ht : (pc : Int) + off = (tgt : Int)) (h : ¬ (x ≤ y)) (k : Ev rv M (pc + 3) L S w o) : Ev rv M pc L (.int y :: .int x :: S) w o := by
  have := e_icmp_le (o1 := none) hd ht (fun z => absurd z h) (fun _ => k)
  rw [if_neg h] at this
  exact this
theorem e_mabs {idx : Nat} {x : Int32} (hfr : 1 ≤ M.2.2.2.2.1) (hlo : (S.map fun v => v.category).sum + 13 ≤ M.2.2.2.2.2) (hw : Cond.methodLink M.1.cls idx Lib.Math.abs.name ∈ a_T ∧ Cond.static Lib.Math.abs.name ∈ a_T ∧ Cond.initialized "java/lang/Math" ∈ a_T ∧ Cond.code Lib.Math.abs.name Lib.Math.abs.code 1 (some .int) ∈ a_T) (hd : decode M.2.1 pc = .ok (.invokestatic idx, 3)) (k : Ev rv M (pc + 3) L (.int (if 0 ≤ x then x else 0 - x) :: S) w o) : Ev rv M pc L (.int x :: S) w o := by
  intro q hq l D ad ca p e s m args below meth c A Z hC hA hR H locs ls hP hD hS hl
  have hts := hC.2.2.2.2.2.1
  exact va_mabs hC.1 hC.2.1 (hC.2.2.1.trans hl.1.symm) hC.2.2.2.2.1 (hts _ hw.1) (hts _ hw.2.1) (hts _ hw.2.2.1) (hts _ hw.2.2.2) hfr (by rw [a_sum]; exact hlo) (Nat.le_refl _) (Nat.le_refl _) hd (k q hq l D ad ca p e s m args below meth c A Z hC hA hR H locs ls hP hD hS hl)
theorem e_mmax {idx : Nat} {x y : Int32} (hfr : 1 ≤ M.2.2.2.2.1) (hlo : (S.map fun v => v.category).sum + 13 ≤ M.2.2.2.2.2) (hw : Cond.methodLink M.1.cls idx Lib.Math.max.name ∈ a_T ∧ Cond.static Lib.Math.max.name ∈ a_T ∧ Cond.initialized "java/lang/Math" ∈ a_T ∧ Cond.code Lib.Math.max.name Lib.Math.max.code 2 (some .int) ∈ a_T) (hd : decode M.2.1 pc = .ok (.invokestatic idx, 3)) (k : Ev rv M (pc + 3) L (.int (if x < y then y else x) :: S) w o) : Ev rv M pc L (.int y :: .int x :: S) w o := by
  intro q hq l D ad ca p e s m args below meth c A Z hC hA hR H locs ls hP hD hS hl
  have hts := hC.2.2.2.2.2.1
  exact va_mmax hC.1 hC.2.1 (hC.2.2.1.trans hl.1.symm) hC.2.2.2.2.1 (hts _ hw.1) (hts _ hw.2.1) (hts _ hw.2.2.1) (hts _ hw.2.2.2) hfr (by rw [a_sum]; exact hlo) (Nat.le_refl _) (Nat.le_refl _) hd (k q hq l D ad ca p e s m args below meth c A Z hC hA hR H locs ls hP hD hS hl)
theorem e_mmin {idx : Nat} {x y : Int32} (hfr : 1 ≤ M.2.2.2.2.1) (hlo : (S.map fun v => v.category).sum + 13 ≤ M.2.2.2.2.2) (hw : Cond.methodLink M.1.cls idx Lib.Math.min.name ∈ a_T ∧ Cond.static Lib.Math.min.name ∈ a_T ∧ Cond.initialized "java/lang/Math" ∈ a_T ∧ Cond.code Lib.Math.min.name Lib.Math.min.code 2 (some .int) ∈ a_T) (hd : decode M.2.1 pc = .ok (.invokestatic idx, 3)) (k : Ev rv M (pc + 3) L (.int (if y < x then y else x) :: S) w o) : Ev rv M pc L (.int y :: .int x :: S) w o := by
  intro q hq l D ad ca p e s m args below meth c A Z hC hA hR H locs ls hP hD hS hl
  have hts := hC.2.2.2.2.2.1
  exact va_mmin hC.1 hC.2.1 (hC.2.2.1.trans hl.1.symm) hC.2.2.2.2.1 (hts _ hw.1) (hts _ hw.2.1) (hts _ hw.2.2.1) (hts _ hw.2.2.2) hfr (by rw [a_sum]; exact hlo) (Nat.le_refl _) (Nat.le_refl _) hd (k q hq l D ad ca p e s m args below meth c A Z hC hA hR H locs ls hP hD hS hl)
end EX
def loop1 {β : Type} (B : (aW → Option β) → aW → Option β) : Nat → aW → Option β
  | 0 => fun _ => none
  | n + 1 => B (loop1 B n)
theorem e_loop1 {τ : Type} {rv : τ → Option Value} {M : aM} {pc : Nat} {L : List (Option Value)} {S : List Value} {B : (aW → Option (τ × aW)) → aW → Option (τ × aW)} (h : ∀ kf : aW → Option (τ × aW), (∀ (w : aW), Ev rv M pc L S w (kf w)) → ∀ (w : aW), Ev rv M pc L S w (B kf w)) : ∀ (n : Nat) (w : aW), Ev rv M pc L S w (loop1 B n w)
  | 0, _ => e_none
  | n + 1, w => h (loop1 B n) (fun w => e_loop1 h n w) w
def loop2 {α0 β : Type} (B : (α0 → aW → Option β) → α0 → aW → Option β) : Nat → α0 → aW → Option β
  | 0 => fun _ _ => none
  | n + 1 => B (loop2 B n)
theorem e_loop2 {α0 τ : Type} {rv : τ → Option Value} {M : aM} {pc : Nat} {L : α0 → List (Option Value)} {S : α0 → List Value} {B : (α0 → aW → Option (τ × aW)) → α0 → aW → Option (τ × aW)} (h : ∀ kf : α0 → aW → Option (τ × aW), (∀ (a0 : α0) (w : aW), Ev rv M pc (L a0) (S a0) w (kf a0 w)) → ∀ (a0 : α0) (w : aW), Ev rv M pc (L a0) (S a0) w (B kf a0 w)) : ∀ (n : Nat) (a0 : α0) (w : aW), Ev rv M pc (L a0) (S a0) w (loop2 B n a0 w)
  | 0, _, _ => e_none
  | n + 1, a0, w => h (loop2 B n) (fun a0 w => e_loop2 h n a0 w) a0 w
def loop3 {α0 α1 β : Type} (B : (α0 → α1 → aW → Option β) → α0 → α1 → aW → Option β) : Nat → α0 → α1 → aW → Option β
  | 0 => fun _ _ _ => none
  | n + 1 => B (loop3 B n)
theorem e_loop3 {α0 α1 τ : Type} {rv : τ → Option Value} {M : aM} {pc : Nat} {L : α0 → α1 → List (Option Value)} {S : α0 → α1 → List Value} {B : (α0 → α1 → aW → Option (τ × aW)) → α0 → α1 → aW → Option (τ × aW)} (h : ∀ kf : α0 → α1 → aW → Option (τ × aW), (∀ (a0 : α0) (a1 : α1) (w : aW), Ev rv M pc (L a0 a1) (S a0 a1) w (kf a0 a1 w)) → ∀ (a0 : α0) (a1 : α1) (w : aW), Ev rv M pc (L a0 a1) (S a0 a1) w (B kf a0 a1 w)) : ∀ (n : Nat) (a0 : α0) (a1 : α1) (w : aW), Ev rv M pc (L a0 a1) (S a0 a1) w (loop3 B n a0 a1 w)
  | 0, _, _, _ => e_none
  | n + 1, a0, a1, w => h (loop3 B n) (fun a0 a1 w => e_loop3 h n a0 a1 w) a0 a1 w
def loop4 {α0 α1 α2 β : Type} (B : (α0 → α1 → α2 → aW → Option β) → α0 → α1 → α2 → aW → Option β) : Nat → α0 → α1 → α2 → aW → Option β
  | 0 => fun _ _ _ _ => none
  | n + 1 => B (loop4 B n)
theorem e_loop4 {α0 α1 α2 τ : Type} {rv : τ → Option Value} {M : aM} {pc : Nat} {L : α0 → α1 → α2 → List (Option Value)} {S : α0 → α1 → α2 → List Value} {B : (α0 → α1 → α2 → aW → Option (τ × aW)) → α0 → α1 → α2 → aW → Option (τ × aW)} (h : ∀ kf : α0 → α1 → α2 → aW → Option (τ × aW), (∀ (a0 : α0) (a1 : α1) (a2 : α2) (w : aW), Ev rv M pc (L a0 a1 a2) (S a0 a1 a2) w (kf a0 a1 a2 w)) → ∀ (a0 : α0) (a1 : α1) (a2 : α2) (w : aW), Ev rv M pc (L a0 a1 a2) (S a0 a1 a2) w (B kf a0 a1 a2 w)) : ∀ (n : Nat) (a0 : α0) (a1 : α1) (a2 : α2) (w : aW), Ev rv M pc (L a0 a1 a2) (S a0 a1 a2) w (loop4 B n a0 a1 a2 w)
  | 0, _, _, _, _ => e_none
  | n + 1, a0, a1, a2, w => h (loop4 B n) (fun a0 a1 a2 w => e_loop4 h n a0 a1 a2 w) a0 a1 a2 w
def loop5 {α0 α1 α2 α3 β : Type} (B : (α0 → α1 → α2 → α3 → aW → Option β) → α0 → α1 → α2 → α3 → aW → Option β) : Nat → α0 → α1 → α2 → α3 → aW → Option β
  | 0 => fun _ _ _ _ _ => none
  | n + 1 => B (loop5 B n)
theorem e_loop5 {α0 α1 α2 α3 τ : Type} {rv : τ → Option Value} {M : aM} {pc : Nat} {L : α0 → α1 → α2 → α3 → List (Option Value)} {S : α0 → α1 → α2 → α3 → List Value} {B : (α0 → α1 → α2 → α3 → aW → Option (τ × aW)) → α0 → α1 → α2 → α3 → aW → Option (τ × aW)} (h : ∀ kf : α0 → α1 → α2 → α3 → aW → Option (τ × aW), (∀ (a0 : α0) (a1 : α1) (a2 : α2) (a3 : α3) (w : aW), Ev rv M pc (L a0 a1 a2 a3) (S a0 a1 a2 a3) w (kf a0 a1 a2 a3 w)) → ∀ (a0 : α0) (a1 : α1) (a2 : α2) (a3 : α3) (w : aW), Ev rv M pc (L a0 a1 a2 a3) (S a0 a1 a2 a3) w (B kf a0 a1 a2 a3 w)) : ∀ (n : Nat) (a0 : α0) (a1 : α1) (a2 : α2) (a3 : α3) (w : aW), Ev rv M pc (L a0 a1 a2 a3) (S a0 a1 a2 a3) w (loop5 B n a0 a1 a2 a3 w)
  | 0, _, _, _, _, _ => e_none
  | n + 1, a0, a1, a2, a3, w => h (loop5 B n) (fun a0 a1 a2 a3 w => e_loop5 h n a0 a1 a2 a3 w) a0 a1 a2 a3 w
def loop6 {α0 α1 α2 α3 α4 β : Type} (B : (α0 → α1 → α2 → α3 → α4 → aW → Option β) → α0 → α1 → α2 → α3 → α4 → aW → Option β) : Nat → α0 → α1 → α2 → α3 → α4 → aW → Option β
  | 0 => fun _ _ _ _ _ _ => none
  | n + 1 => B (loop6 B n)
theorem e_loop6 {α0 α1 α2 α3 α4 τ : Type} {rv : τ → Option Value} {M : aM} {pc : Nat} {L : α0 → α1 → α2 → α3 → α4 → List (Option Value)} {S : α0 → α1 → α2 → α3 → α4 → List Value} {B : (α0 → α1 → α2 → α3 → α4 → aW → Option (τ × aW)) → α0 → α1 → α2 → α3 → α4 → aW → Option (τ × aW)} (h : ∀ kf : α0 → α1 → α2 → α3 → α4 → aW → Option (τ × aW), (∀ (a0 : α0) (a1 : α1) (a2 : α2) (a3 : α3) (a4 : α4) (w : aW), Ev rv M pc (L a0 a1 a2 a3 a4) (S a0 a1 a2 a3 a4) w (kf a0 a1 a2 a3 a4 w)) → ∀ (a0 : α0) (a1 : α1) (a2 : α2) (a3 : α3) (a4 : α4) (w : aW), Ev rv M pc (L a0 a1 a2 a3 a4) (S a0 a1 a2 a3 a4) w (B kf a0 a1 a2 a3 a4 w)) : ∀ (n : Nat) (a0 : α0) (a1 : α1) (a2 : α2) (a3 : α3) (a4 : α4) (w : aW), Ev rv M pc (L a0 a1 a2 a3 a4) (S a0 a1 a2 a3 a4) w (loop6 B n a0 a1 a2 a3 a4 w)
  | 0, _, _, _, _, _, _ => e_none
  | n + 1, a0, a1, a2, a3, a4, w => h (loop6 B n) (fun a0 a1 a2 a3 a4 w => e_loop6 h n a0 a1 a2 a3 a4 w) a0 a1 a2 a3 a4 w
def loop7 {α0 α1 α2 α3 α4 α5 β : Type} (B : (α0 → α1 → α2 → α3 → α4 → α5 → aW → Option β) → α0 → α1 → α2 → α3 → α4 → α5 → aW → Option β) : Nat → α0 → α1 → α2 → α3 → α4 → α5 → aW → Option β
  | 0 => fun _ _ _ _ _ _ _ => none
  | n + 1 => B (loop7 B n)
theorem e_loop7 {α0 α1 α2 α3 α4 α5 τ : Type} {rv : τ → Option Value} {M : aM} {pc : Nat} {L : α0 → α1 → α2 → α3 → α4 → α5 → List (Option Value)} {S : α0 → α1 → α2 → α3 → α4 → α5 → List Value} {B : (α0 → α1 → α2 → α3 → α4 → α5 → aW → Option (τ × aW)) → α0 → α1 → α2 → α3 → α4 → α5 → aW → Option (τ × aW)} (h : ∀ kf : α0 → α1 → α2 → α3 → α4 → α5 → aW → Option (τ × aW), (∀ (a0 : α0) (a1 : α1) (a2 : α2) (a3 : α3) (a4 : α4) (a5 : α5) (w : aW), Ev rv M pc (L a0 a1 a2 a3 a4 a5) (S a0 a1 a2 a3 a4 a5) w (kf a0 a1 a2 a3 a4 a5 w)) → ∀ (a0 : α0) (a1 : α1) (a2 : α2) (a3 : α3) (a4 : α4) (a5 : α5) (w : aW), Ev rv M pc (L a0 a1 a2 a3 a4 a5) (S a0 a1 a2 a3 a4 a5) w (B kf a0 a1 a2 a3 a4 a5 w)) : ∀ (n : Nat) (a0 : α0) (a1 : α1) (a2 : α2) (a3 : α3) (a4 : α4) (a5 : α5) (w : aW), Ev rv M pc (L a0 a1 a2 a3 a4 a5) (S a0 a1 a2 a3 a4 a5) w (loop7 B n a0 a1 a2 a3 a4 a5 w)
  | 0, _, _, _, _, _, _, _ => e_none
  | n + 1, a0, a1, a2, a3, a4, a5, w => h (loop7 B n) (fun a0 a1 a2 a3 a4 a5 w => e_loop7 h n a0 a1 a2 a3 a4 a5 w) a0 a1 a2 a3 a4 a5 w
def loop8 {α0 α1 α2 α3 α4 α5 α6 β : Type} (B : (α0 → α1 → α2 → α3 → α4 → α5 → α6 → aW → Option β) → α0 → α1 → α2 → α3 → α4 → α5 → α6 → aW → Option β) : Nat → α0 → α1 → α2 → α3 → α4 → α5 → α6 → aW → Option β
  | 0 => fun _ _ _ _ _ _ _ _ => none
  | n + 1 => B (loop8 B n)
theorem e_loop8 {α0 α1 α2 α3 α4 α5 α6 τ : Type} {rv : τ → Option Value} {M : aM} {pc : Nat} {L : α0 → α1 → α2 → α3 → α4 → α5 → α6 → List (Option Value)} {S : α0 → α1 → α2 → α3 → α4 → α5 → α6 → List Value} {B : (α0 → α1 → α2 → α3 → α4 → α5 → α6 → aW → Option (τ × aW)) → α0 → α1 → α2 → α3 → α4 → α5 → α6 → aW → Option (τ × aW)} (h : ∀ kf : α0 → α1 → α2 → α3 → α4 → α5 → α6 → aW → Option (τ × aW), (∀ (a0 : α0) (a1 : α1) (a2 : α2) (a3 : α3) (a4 : α4) (a5 : α5) (a6 : α6) (w : aW), Ev rv M pc (L a0 a1 a2 a3 a4 a5 a6) (S a0 a1 a2 a3 a4 a5 a6) w (kf a0 a1 a2 a3 a4 a5 a6 w)) → ∀ (a0 : α0) (a1 : α1) (a2 : α2) (a3 : α3) (a4 : α4) (a5 : α5) (a6 : α6) (w : aW), Ev rv M pc (L a0 a1 a2 a3 a4 a5 a6) (S a0 a1 a2 a3 a4 a5 a6) w (B kf a0 a1 a2 a3 a4 a5 a6 w)) : ∀ (n : Nat) (a0 : α0) (a1 : α1) (a2 : α2) (a3 : α3) (a4 : α4) (a5 : α5) (a6 : α6) (w : aW), Ev rv M pc (L a0 a1 a2 a3 a4 a5 a6) (S a0 a1 a2 a3 a4 a5 a6) w (loop8 B n a0 a1 a2 a3 a4 a5 a6 w)
  | 0, _, _, _, _, _, _, _, _ => e_none
  | n + 1, a0, a1, a2, a3, a4, a5, a6, w => h (loop8 B n) (fun a0 a1 a2 a3 a4 a5 a6 w => e_loop8 h n a0 a1 a2 a3 a4 a5 a6 w) a0 a1 a2 a3 a4 a5 a6 w
def loop9 {α0 α1 α2 α3 α4 α5 α6 α7 β : Type} (B : (α0 → α1 → α2 → α3 → α4 → α5 → α6 → α7 → aW → Option β) → α0 → α1 → α2 → α3 → α4 → α5 → α6 → α7 → aW → Option β) : Nat → α0 → α1 → α2 → α3 → α4 → α5 → α6 → α7 → aW → Option β
  | 0 => fun _ _ _ _ _ _ _ _ _ => none
  | n + 1 => B (loop9 B n)
theorem e_loop9 {α0 α1 α2 α3 α4 α5 α6 α7 τ : Type} {rv : τ → Option Value} {M : aM} {pc : Nat} {L : α0 → α1 → α2 → α3 → α4 → α5 → α6 → α7 → List (Option Value)} {S : α0 → α1 → α2 → α3 → α4 → α5 → α6 → α7 → List Value} {B : (α0 → α1 → α2 → α3 → α4 → α5 → α6 → α7 → aW → Option (τ × aW)) → α0 → α1 → α2 → α3 → α4 → α5 → α6 → α7 → aW → Option (τ × aW)} (h : ∀ kf : α0 → α1 → α2 → α3 → α4 → α5 → α6 → α7 → aW → Option (τ × aW), (∀ (a0 : α0) (a1 : α1) (a2 : α2) (a3 : α3) (a4 : α4) (a5 : α5) (a6 : α6) (a7 : α7) (w : aW), Ev rv M pc (L a0 a1 a2 a3 a4 a5 a6 a7) (S a0 a1 a2 a3 a4 a5 a6 a7) w (kf a0 a1 a2 a3 a4 a5 a6 a7 w)) → ∀ (a0 : α0) (a1 : α1) (a2 : α2) (a3 : α3) (a4 : α4) (a5 : α5) (a6 : α6) (a7 : α7) (w : aW), Ev rv M pc (L a0 a1 a2 a3 a4 a5 a6 a7) (S a0 a1 a2 a3 a4 a5 a6 a7) w (B kf a0 a1 a2 a3 a4 a5 a6 a7 w)) : ∀ (n : Nat) (a0 : α0) (a1 : α1) (a2 : α2) (a3 : α3) (a4 : α4) (a5 : α5) (a6 : α6) (a7 : α7) (w : aW), Ev rv M pc (L a0 a1 a2 a3 a4 a5 a6 a7) (S a0 a1 a2 a3 a4 a5 a6 a7) w (loop9 B n a0 a1 a2 a3 a4 a5 a6 a7 w)
  | 0, _, _, _, _, _, _, _, _, _ => e_none
  | n + 1, a0, a1, a2, a3, a4, a5, a6, a7, w => h (loop9 B n) (fun a0 a1 a2 a3 a4 a5 a6 a7 w => e_loop9 h n a0 a1 a2 a3 a4 a5 a6 a7 w) a0 a1 a2 a3 a4 a5 a6 a7 w

