/-! The law: its own rows over the worlds of numbered cells (the script is 75) -/
abbrev M_law : aM := (yL_law, code, 8, some .boolean, 11, 406)
abbrev lK : Type := Launch × va_G × (Nat → Nat) × (Nat → Nat) × Program × Env × State × MethodId × Nat × Nat × (Nat → Int32) × List Frame × Method × Code
abbrev lK.l (K : lK) : Launch := K.1
abbrev lK.D (K : lK) : va_G := K.2.1
abbrev lK.ad (K : lK) : Nat → Nat := K.2.2.1
abbrev lK.ca (K : lK) : Nat → Nat := K.2.2.2.1
abbrev lK.p (K : lK) : Program := K.2.2.2.2.1
abbrev lK.e (K : lK) : Env := K.2.2.2.2.2.1
abbrev lK.s (K : lK) : State := K.2.2.2.2.2.2.1
abbrev lK.m (K : lK) : MethodId := K.2.2.2.2.2.2.2.1
abbrev lK.b (K : lK) : Nat := K.2.2.2.2.2.2.2.2.1
abbrev lK.n (K : lK) : Nat := K.2.2.2.2.2.2.2.2.2.1
abbrev lK.xs (K : lK) : Nat → Int32 := K.2.2.2.2.2.2.2.2.2.2.1
abbrev lK.below (K : lK) : List Frame := K.2.2.2.2.2.2.2.2.2.2.2.1
abbrev lK.meth (K : lK) : Method := K.2.2.2.2.2.2.2.2.2.2.2.2.1
abbrev lK.c (K : lK) : Code := K.2.2.2.2.2.2.2.2.2.2.2.2.2
def lK.A (K : lK) : Nat → Prop := fun q => K.s.heap.size ≤ q
def lK.Ok (K : lK) : Prop := a_Cx M_law K.D K.ca K.p K.s K.m #[Value.ref K.b] K.meth K.c ∧ va_X K.b K.n K.xs K.s K.s.heap ∧ K.b < K.s.heap.size ∧ K.ad 75 = K.b ∧ K.n ≤ 3072
/-- from pc of the law, with these locals, stack and world, t cells of u slots made, it comes to its end with true -/
def Lw (K : lK) (t u : Nat) (pc : Nat) (L : List (Option Value)) (S : List Value) (w : aW) : Prop :=
  ∀ (H : Heap) (locs : List Loc) (ls : Array Slot), va_P K.D a_cl (a_w K.ad K.ca w) H → va_D K.A (a_w K.ad K.ca w) → va_S K.A K.s.heap H locs → lv_has ls 8 (a_l K.ad 0 L) → W K.p K.l K.e room_1 K.s K.m #[Value.ref K.b] K.below K.meth K.c H locs t u (lw_Z K.below #[Value.ref K.b] K.s) (F0 K.m pc ls (S.map (a_v K.ad)))
section LW
variable {K : lK} {t u : Nat} {pc : Nat} {L : List (Option Value)} {S : List Value} {w : aW}
theorem l_aload {kf : Fin 4} {i r : Nat} (h : K.Ok) (hd : decode code pc = .ok (.aload_n kf, 1)) (hi : (kf : Nat) = i) (hL : L[i]? = some (some (.ref r))) (k : Lw K t u (pc + 1) L (.ref r :: S) w) : Lw K t u pc L S w := by
  intro H locs ls hP hD hS hl
  exact lv_aload_n h.1.1 h.1.2.1 hd hi (a_load hl hL) (k H locs ls hP hD hS hl)
theorem l_iload {i : Nat} {x : Int32} (h : K.Ok) (hd : decode code pc = .ok (.iload i, 2)) (hL : L[i]? = some (some (.int x))) (k : Lw K t u (pc + 2) L (.int x :: S) w) : Lw K t u pc L S w := by
  intro H locs ls hP hD hS hl
  exact lv_iload h.1.1 h.1.2.1 hd (a_load hl hL) (k H locs ls hP hD hS hl)
theorem l_iconst {n : Int} {v : Int32} (h : K.Ok) (hd : decode code pc = .ok (.iconst n, 1)) (hv : Int32.ofInt n = v) (k : Lw K t u (pc + 1) L (.int v :: S) w) : Lw K t u pc L S w := by
  intro H locs ls hP hD hS hl
  exact lv_iconst h.1.1 h.1.2.1 hd hv (k H locs ls hP hD hS hl)
theorem l_bipush {n : Int} {v : Int32} (h : K.Ok) (hd : decode code pc = .ok (.bipush n, 2)) (hv : (Int8.ofInt n).toInt32 = v) (k : Lw K t u (pc + 2) L (.int v :: S) w) : Lw K t u pc L S w := by
  intro H locs ls hP hD hS hl
  exact lv_bipush h.1.1 h.1.2.1 hd hv (k H locs ls hP hD hS hl)
theorem l_iadd {x y : Int32} (h : K.Ok) (hd : decode code pc = .ok (.iadd, 1)) (k : Lw K t u (pc + 1) L (.int (x + y) :: S) w) : Lw K t u pc L (.int y :: .int x :: S) w := by
  intro H locs ls hP hD hS hl
  exact lv_iadd h.1.1 h.1.2.1 hd (k H locs ls hP hD hS hl)
theorem l_isub {x y : Int32} (h : K.Ok) (hd : decode code pc = .ok (.isub, 1)) (k : Lw K t u (pc + 1) L (.int (x - y) :: S) w) : Lw K t u pc L (.int y :: .int x :: S) w := by
  intro H locs ls hP hD hS hl
  exact lv_isub h.1.1 h.1.2.1 hd (k H locs ls hP hD hS hl)
theorem l_iand {x y : Int32} (h : K.Ok) (hd : decode code pc = .ok (.iand, 1)) (k : Lw K t u (pc + 1) L (.int (x &&& y) :: S) w) : Lw K t u pc L (.int y :: .int x :: S) w := by
  intro H locs ls hP hD hS hl
  exact lv_iand h.1.1 h.1.2.1 hd (k H locs ls hP hD hS hl)
theorem l_bA (h : K.Ok) : ¬ K.A K.b := Nat.not_le.mpr h.2.2.1
theorem l_sld {a : Int32} (h : K.Ok) (hd : decode code pc = .ok (.iaload, 1)) (hin : vp_in a K.n) (k : Lw K t u (pc + 1) L (.int (K.xs a.toNatClampNeg) :: S) w) : Lw K t u pc L (.int a :: .ref 75 :: S) w := by
  intro H locs ls hP hD hS hl
  show W K.p K.l K.e room_1 K.s K.m #[Value.ref K.b] K.below K.meth K.c H locs t u (lw_Z K.below #[Value.ref K.b] K.s) (F0 K.m pc ls (.int a :: .ref (K.ad 75) :: S.map (a_v K.ad)))
  rw [h.2.2.2.1]
  exact va_sld h.1.1 h.1.2.1 h.2.1 h.2.2.1 (l_bA h) hS hin hd (k H locs ls hP hD hS hl)
theorem l_slen (h : K.Ok) (hd : decode code pc = .ok (.arraylength, 1)) (k : Lw K t u (pc + 1) L (.int (Int32.ofNat K.n) :: S) w) : Lw K t u pc L (.ref 75 :: S) w := by
  intro H locs ls hP hD hS hl
  show W K.p K.l K.e room_1 K.s K.m #[Value.ref K.b] K.below K.meth K.c H locs t u (lw_Z K.below #[Value.ref K.b] K.s) (F0 K.m pc ls (.ref (K.ad 75) :: S.map (a_v K.ad)))
  rw [h.2.2.2.1]
  exact va_slen h.1.1 h.1.2.1 h.2.1 h.2.2.1 (l_bA h) hS hd (k H locs ls hP hD hS hl)
theorem l_arg {j : Int} {v a : Int32} (h : K.Ok) (d0 : decode code pc = .ok (.aload_n 0, 1)) (d1 : decode code (pc + 1) = .ok (.iload 4, 2)) (d2 : decode code (pc + 3) = .ok (.iconst j, 1)) (d3 : decode code (pc + 4) = .ok (.iadd, 1)) (d4 : decode code (pc + 5) = .ok (.iaload, 1)) (hj : Int32.ofInt j = v) (hL : L[0]? = some (some (.ref 75))) (h4 : L[4]? = some (some (.int a))) (hin : vp_in (a + v) K.n) (k : Lw K t u (pc + 6) L (.int (K.xs (a + v).toNatClampNeg) :: S) w) : Lw K t u pc L S w := by
  refine l_aload h d0 rfl hL ?_
  refine l_iload h d1 h4 ?_
  refine l_iconst h d2 hj ?_
  refine l_iadd h d3 ?_
  exact l_sld h d4 hin k
theorem l_goto {off : Int} {tgt : Nat} (h : K.Ok) (hd : decode code pc = .ok (.goto off, 3)) (ht : (pc : Int) + off = (tgt : Int)) (k : Lw K t u tgt L S w) : Lw K t u pc L S w := by
  intro H locs ls hP hD hS hl
  exact lv_goto h.1.1 h.1.2.1 hd ht (k H locs ls hP hD hS hl)
theorem l_eq {x : Int32} {off : Int} {tgt : Nat} (h : K.Ok) (hd : decode code pc = .ok (.if_icmp .eq off, 3)) (ht : (pc : Int) + off = (tgt : Int)) (k : Lw K t u tgt L S w) : Lw K t u pc L (.int x :: .int x :: S) w := by
  intro H locs ls hP hD hS hl
  exact lv_icmp_eq h.1.1 h.1.2.1 hd ht (fun _ => k H locs ls hP hD hS hl) (fun q => absurd rfl q)
theorem l_gt {x y : Int32} {off : Int} {tgt : Nat} (h : K.Ok) (hd : decode code pc = .ok (.if_icmp .gt off, 3)) (ht : (pc : Int) + off = (tgt : Int)) (kt : y < x → Lw K t u tgt L S w) (kf : ¬ y < x → Lw K t u (pc + 3) L S w) : Lw K t u pc L (.int y :: .int x :: S) w := by
  intro H locs ls hP hD hS hl
  exact lv_icmp_gt h.1.1 h.1.2.1 hd ht (fun q => kt q H locs ls hP hD hS hl) (fun q => kf q H locs ls hP hD hS hl)
theorem l_leq {x : Int64} {off : Int} {tgt : Nat} (h : K.Ok) (d1 : decode code pc = .ok (.lcmp, 1)) (d2 : decode code (pc + 1) = .ok (.ifCond .eq off, 3)) (ht : ((pc + 1 : Nat) : Int) + off = (tgt : Int)) (k : Lw K t u tgt L S w) : Lw K t u pc L (.long x :: .long x :: S) w := by
  intro H locs ls hP hD hS hl
  refine W.lcmp h.1.1 h.1.2.1 d1 ?_
  have hz : lg_cmp x x = 0 := by simp [lg_cmp]
  refine lv_if_eq h.1.1 h.1.2.1 d2 ht (fun _ => k H locs ls hP hD hS hl) (fun q => absurd hz (by simpa using q))
theorem l_iinc {i : Nat} {n : Int} {x v : Int32} {L' : List (Option Value)} (h : K.Ok) (hd : decode code pc = .ok (.iinc i n, 3)) (hn : i < 8) (hx : L[i]? = some (some (.int x))) (hv : Int32.ofInt n = v) (hL : a_st1 L i (.int (x + v)) = L') (k : Lw K t u (pc + 3) L' S w) : Lw K t u pc L S w := by
  subst hL; subst hv
  intro H locs ls hP hD hS hl
  have hm := a_l_mem (ad := K.ad) L 0 i _ hx
  rw [Nat.zero_add] at hm
  obtain ⟨kk, hkk⟩ := List.getElem?_of_mem hm
  exact lv_iinc h.1.1 h.1.2.1 hd hl (k := kk) hkk rfl hn rfl (fun ls' hl' => k H locs ls' hP hD hS (a_has_st1 (v := .int (x + Int32.ofInt n)) hl'))
theorem l_tableIn {dflt lo hi : Int} {offs : Array Int} {len : Nat} {x : Int32} {off : Int} {tgt : Nat} (h : K.Ok) (hd : decode code pc = .ok (.tableswitch dflt lo hi offs, len)) (h1 : ¬ x.toInt < lo) (h2 : ¬ hi < x.toInt) (ho : offs[(x.toInt - lo).toNat]? = some off) (ht : (pc : Int) + off = (tgt : Int)) (k : Lw K t u tgt L S w) : Lw K t u pc L (.int x :: S) w := by
  intro H locs ls hP hD hS hl
  exact lv_tableIn h.1.1 h.1.2.1 hd h1 h2 ho ht (k H locs ls hP hD hS hl)
theorem l_tableOut {dflt lo hi : Int} {offs : Array Int} {len : Nat} {x : Int32} {tgt : Nat} (h : K.Ok) (hd : decode code pc = .ok (.tableswitch dflt lo hi offs, len)) (h1 : x.toInt < lo ∨ hi < x.toInt) (ht : (pc : Int) + dflt = (tgt : Int)) (k : Lw K t u tgt L S w) : Lw K t u pc L (.int x :: S) w := by
  intro H locs ls hP hD hS hl
  exact lv_tableOut h.1.1 h.1.2.1 hd h1 ht (k H locs ls hP hD hS hl)
theorem l_wide {t' u' : Nat} (h1 : t ≤ t') (h2 : u ≤ u') (k : Lw K t' u' pc L S w) : Lw K t u pc L S w := by
  intro H locs ls hP hD hS hl
  exact W.widen h1 h2 (k H locs ls hP hD hS hl)
theorem l_end (h : K.Ok) (d0 : decode code pc = .ok (.iconst 1, 1)) (d1 : decode code (pc + 1) = .ok (.ireturn, 1)) (h1 : t ≤ 601024) (h2 : u ≤ 7293034) : Lw K t u pc L [] w := by
  intro H locs ls hP hD hS hl
  refine lv_iconst (v := 1) h.1.1 h.1.2.1 d0 (by decide) ?_
  refine va_forget (fun q hq => hS.2.2 q hq) ?_
  refine W.widen h1 h2 ?_
  exact lw_ret h.1.1 h.1.2.1 h.1.2.2.2.1 h.1.2.2.2.2.2.2.2.1 d1
theorem l_back {τ' : Type} {rv' : τ' → Option Value} {q' : τ' × aW} {p : Program} {l : Launch} {e : Env} {R : Room} {s : State} {m : MethodId} {args : Array Value} {below : List Frame} {meth : Method} {c : Code} {H : Heap} {locs : List Loc} {Z : State → Prop} {D : va_G} {ad ca : Nat → Nat} {w : aW} {A : Nat → Prop} {pc : Nat} {ls : Array Slot} {st0 rest : List Value} {t u : Nat}
    (hrun : va_Run p l e R s m args below meth c H locs t u 0 0 (F0 m pc ls st0) rest (fun st oc t => (oc = .returned ((rv' q'.1).map (a_v ad)) ∧ va_P D a_cl (a_w ad ca q'.2) t.heap) ∧ va_F (va_A (a_w ad ca w) H.size) st t) (va_A (a_w ad ca w) H.size))
    (hD : va_D A (a_w ad ca w)) (hS : va_S A s.heap H locs) (hA : ∀ x : Nat, s.heap.size ≤ x → A x)
    (kk : ∀ (H1 : Heap) (locs1 : List Loc), va_P D a_cl (a_w ad ca q'.2) H1 → va_D A (a_w ad ca q'.2) → va_S A s.heap H1 locs1 → W p l e R s m args below meth c H1 locs1 t u Z (F0 m (pc + 3) ls (((rv' q'.1).map (a_v ad)).toList ++ rest))) : W p l e R s m args below meth c H locs t u Z (F0 m pc ls st0) := by
  intro T hT X
  obtain ⟨v, st₀, t, T', Lc, h0, X', hL, e1, e2, ⟨⟨hv, hP1⟩, hz, hk⟩, st⟩ := hrun T hT X
  have hv' : v = (rv' q'.1).map (a_v ad) := Outcome.returned.inj hv
  subst hv'
  have hfree : ∀ q, va_A (a_w ad ca w) H.size q → A q := by
    intro q h
    rcases h with ⟨k, e, h⟩ | h
    · exact hD.2 k _ h
    · exact hA q (Nat.le_trans hS.1 h)
  rw [h0] at hz hk
  rw [← e1] at hz hk hP1
  obtain ⟨t2, a1, b1⟩ := kk T'.heap (locs ++ Lc) hP1 (a_w_D _ hD)
    ⟨Nat.le_trans hS.1 hz, fun q h1 h2 => by
      rw [hk q (Nat.lt_of_lt_of_le h1 hS.1) (fun z => h2 (hfree q z))]; exact hS.2.1 q h1 h2, fun q hq => by
      rcases List.mem_append.mp hq with h | h
      · exact hS.2.2 q h
      · exact hfree _ (hL q h)⟩ T' rfl X'
  exact ⟨t2, st t2 a1, b1⟩
theorem l_cb {own : String} {s : State} {args : Array Value} {idx' n : Nat} {M' : aM} (hts : ∀ w ∈ a_T, w.before args s = true) (hM' : a_okM M' n) (hrm : a_rm M_law M') (hl : Cond.methodLink own idx' M'.1 ∈ a_T) : CallB room_1 s args own idx' M'.1 M'.2.1 M'.2.2.1 M'.2.2.2.1 (Cond.code M'.1 M'.2.1 M'.2.2.1 M'.2.2.2.1 :: a_T) (a_R M') 0 0 n := by
  refine ⟨rfl, rfl, hrm.1, hrm.2, ?_, List.mem_cons_self, hts _ hM'.2.2.1, hts _ hM'.2.2.2, hM'.1, fun sig h => ?_, hts _ hl⟩
  · exact pay_in hts (fun w hw => by
      rcases List.mem_cons.mp hw with h | h
      · subst h; exact a_good _ hM'.2.2.1
      · exact a_good _ h)
  · have h2 := hM'.2.1
    rw [h] at h2
    exact (Option.some.inj h2).symm
theorem l_call {τ' : Type} {rv' : τ' → Option Value} {M' : aM} {idx n c0 r : Nat} {q0 : vw_C} {av S0 : List Value} {o' : Option (τ' × aW)} {x : τ'} {w1 : aW} (h : K.Ok) (hf : t ≤ 601024 ∧ u ≤ 7293034) (hc0 : a_cl[c0]? = some q0) (hcn : q0.1 = M'.1.cls) (hM' : a_okM M' n) (hrm : a_rm M_law M') (hk : a_okV RL M' idx) (hd : decode code pc = .ok (.invokevirtual idx, 3)) (hO : a_isO c0 w r) (hs : Sp rv' M' (.ref r :: av) w o') (ho : o' = some (x, w1)) (hn : av.length = n) (hst : S0 = av.reverse ++ .ref r :: S) (hroom : (S.map fun v => v.category).sum ≤ 8)
    (kk : Lw K t u (pc + 3) L ((rv' x).toList ++ S) w1) : Lw K t u pc L S0 w := by
  intro H locs ls hP hD hS hl
  obtain ⟨hC, hX, hbl, had, hL⟩ := h
  obtain ⟨hb1, fs, hb2⟩ := hO
  have hts := hC.2.2.2.2.2.1
  have hA : ∀ q : Nat, K.s.heap.size ≤ q → K.A q := fun _ q => q
  have he : (a_w K.ad K.ca w)[r]? = some (K.ad r, .inr (c0, fs.map (a_v K.ad))) := by rw [a_w_get hb1, hb2]; rfl
  have hrecv := va_recv hC.2.2.2.2.2.2.2.2 hP hc0 he
  rw [hcn] at hrecv
  have hrun := va_runV (Ts := a_T) (b := K.ad r) (As := av.map (a_v K.ad)) (rest := S.map (a_v K.ad)) (g := F0 K.m pc ls (S0.map (a_v K.ad))) (nL := 8) (H := H) (e := K.e) (meth := K.meth) (below := K.below) (locs := locs) (cells := t) (slots := u) ⟨hC.1, hC.2.1, hC.2.2.1, hC.2.2.2.2.1, hts⟩ (hs (x, w1) ho K.l K.D K.ad K.ca H.size) ⟨l_cb hts hM' hrm hk.1, hts _ hk.2.1, hts _ hk.2.2⟩ ⟨a_blind (l := K.l), hrecv, a_pre (l := K.l) (av := .ref (K.ad r) :: av.map (a_v K.ad)) hC hP hD⟩ rfl (by rw [List.length_map]; exact hn) hl.1 (by show S0.map (a_v K.ad) = _; rw [hst, List.map_append, List.map_reverse]; rfl) (lv_room (by rw [a_sum]; exact hroom)) hd hf
  refine l_back (rv' := rv') hrun hD hS hA (fun H1 locs1 hP1 hD1 hS1 => ?_)
  have hgo := kk H1 locs1 ls hP1 hD1 hS1 hl
  rw [List.map_append] at hgo
  have h9 : ((rv' x).toList).map (a_v K.ad) = ((rv' x).map (a_v K.ad)).toList := by cases rv' x <;> rfl
  rw [h9] at hgo
  exact hgo
end LW
/-- the law's locals at the loop -/
def lL (a : Int32) : List (Option Value) := [some (.ref 75), some (.ref 0), some (.ref 50), some (.ref 74), some (.int a), none, none, none]
theorem l_obj (w : aW) (X : aX) (Y : aY) : a_isO 2 (Wd w X Y) 0 := ⟨by decide, _, rfl⟩
