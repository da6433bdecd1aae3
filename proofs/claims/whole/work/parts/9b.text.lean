/-! PURE: the text of a mountain: how it is read, and its statements at the class -/
def atN (ν : aS) (i : Nat) : Int32 := atS ν (nI i)
def dgB (x : Int32) : Bool := inR x 48 57
def digN (c : Int32) : Nat := if c = 98 then 4 else if c = 99 then 2 else if c = 100 then 2 else if c = 103 then 3 else if c = 112 then 7 else if c = 117 then 1 else 0
theorem dig_le (c : Int32) : digN c ≤ 7 := by
  unfold digN
  repeat' split
  all_goals decide
theorem p_digitsBehind (c : Int32) (w : aW) : f_X3_digitsBehind c w = some (if digN c = 0 then -4 else nI (digN c), w) := by
  by_cases h98 : c = 98
  · subst h98; rfl
  by_cases h99 : c = 99
  · subst h99; rfl
  by_cases h100 : c = 100
  · subst h100; rfl
  by_cases h103 : c = 103
  · subst h103; rfl
  by_cases h112 : c = 112
  · subst h112; rfl
  by_cases h117 : c = 117
  · subst h117; rfl
  unfold f_X3_digitsBehind digN
  simp only [h98, h99, h100, h103, h112, h117, if_false, if_true, ite_self]
/-- the first place of c from q on that is no digit -/
def bdF (ν : aS) (q c : Nat) : Option Nat := fndK (fun z => !dgB (atN ν z)) q c
def endB (ν : aS) (q : Nat) : Option Nat := if atN ν q = 59 then none else some q
def orO (o o' : Option Nat) : Option Nat := match o with
  | some z => some z
  | none => o'
def badIn (ν : aS) (p : Nat) : Option Nat := if digN (atN ν p) = 0 then some p else orO (bdF ν (p + 1) (digN (atN ν p))) (endB ν (p + 1 + digN (atN ν p)))
/-- where the statement of a number begins -/
def stP (ν : aS) : Nat → Nat
  | 0 => 0
  | j + 1 => stP ν j + 2 + digN (atN ν (stP ν j))
def scanK (ν : aS) (N : Nat) : Nat → Nat → Nat ⊕ Nat
  | 0, j => .inr j
  | f + 1, j => (badIn ν (stP ν j)).elim (if stP ν (j + 1) < N then scanK ν N f (j + 1) else .inr (j + 1)) .inl
theorem bad24 (w : aW) (X : aX) {d : Nat} (hd : d < 8) (hν : WFs (X.2.2.2.2.1 d)) (k2 : Int32 → aW → Option (Int32 × aW)) {p D : Nat} (hp : p ≤ 100) (hD : D ≤ 7) : ∀ (c b n : Nat), b + c = D → c < n → loop4 (c_X3_firstBadByte_24 (34 + 2 * d) k2) n (nI (p + 1 + b)) (nI D) (nI b) (putX w X) = (orO (bdF (X.2.2.2.2.1 d) (p + 1 + b) c) (endB (X.2.2.2.2.1 d) (p + 1 + D))).elim (if nI (p + 1 + D + 1) < (X.2.2.2.2.1 d).1 4 then k2 (nI (p + 1 + D + 1)) (putX w X) else some (-4, putX w X)) (fun z => some (nI z, putX w X))
  | 0, b, n + 1, hb, _ => by
    have : b = D := by omega
    subst this
    rw [loop4_s]
    show _ = (endB (X.2.2.2.2.1 d) (p + 1 + b)).elim _ _
    unfold endB atN
    by_cases h : atS (X.2.2.2.2.1 d) (nI (p + 1 + b)) = 59
    · rw [if_pos h]
      simp only [c_X3_firstBadByte_24, Int32.le_refl, S_cV w X hd, S_at w X hd hν, bk_some, h, S_gI4 w X hd, bind_some', nI_1, if_true, if_false, not_true_eq_false, not_false_eq_true, Bool.false_eq_true, Bool.true_eq_false, reduceIte, ite_true, ite_false]
      rfl
    · rw [if_neg h]
      simp only [c_X3_firstBadByte_24, Int32.le_refl, S_cV w X hd, S_at w X hd hν, bk_some, h, if_true, if_false, not_true_eq_false, not_false_eq_true, Bool.false_eq_true, Bool.true_eq_false, reduceIte, ite_true, ite_false]
      rfl
  | c + 1, b, n + 1, hb, hn => by
    rw [loop4_s]
    have hlt : ¬ nI D ≤ nI b := le_nIb (by omega) (by omega) (by omega)
    unfold bdF
    rw [fnd_s]
    by_cases h : dgB (atN (X.2.2.2.2.1 d) (p + 1 + b)) = true
    · rw [if_neg (show ¬ (!dgB (atN (X.2.2.2.2.1 d) (p + 1 + b))) = true by rw [h]; decide)]
      have h' : inR (atS (X.2.2.2.2.1 d) (nI (p + 1 + b))) 48 57 = true := h
      simp only [c_X3_firstBadByte_24, hlt, S_cV w X hd, S_at w X hd hν, bk_some, p_within, h', zb_0, nI_1, if_true, if_false, not_true_eq_false, not_false_eq_true, Bool.false_eq_true, Bool.true_eq_false, reduceIte, ite_true, ite_false]
      exact bad24 w X hd hν k2 hp hD c (b + 1) n (by omega) (by omega)
    · have h := Bool.eq_false_iff.mpr h
      rw [if_pos (show (!dgB (atN (X.2.2.2.2.1 d) (p + 1 + b))) = true by rw [h]; rfl)]
      have h' : inR (atS (X.2.2.2.2.1 d) (nI (p + 1 + b))) 48 57 = false := h
      simp only [c_X3_firstBadByte_24, hlt, S_cV w X hd, S_at w X hd hν, bk_some, p_within, h', zb_0, if_true, if_false, not_true_eq_false, not_false_eq_true, Bool.false_eq_true, Bool.true_eq_false, reduceIte, ite_true, ite_false]
      rfl
theorem stP_ge (ν : aS) : ∀ j, 2 * j ≤ stP ν j
  | 0 => Nat.le_refl _
  | j + 1 => by
    have := stP_ge ν j
    show 2 * (j + 1) ≤ stP ν j + 2 + digN (atN ν (stP ν j))
    omega
theorem firstX (w : aW) (X : aX) {d N : Nat} (hd : d < 8) (hν : WFs (X.2.2.2.2.1 d)) (hN : N ≤ 100) (he : (X.2.2.2.2.1 d).1 4 = nI N) : ∀ (f j n : Nat), j + f = 60 → f < n → (j = 0 ∨ stP (X.2.2.2.2.1 d) j < N) → loop2 (c_X3_firstBadByte_2 (34 + 2 * d)) n (nI (stP (X.2.2.2.2.1 d) j)) (putX w X) = some ((scanK (X.2.2.2.2.1 d) N f j).elim nI (fun _ => -4), putX w X)
  | 0, j, n + 1, hj, _, hs => by
    have := stP_ge (X.2.2.2.2.1 d) j
    omega
  | f + 1, j, n + 1, hj, hn, hs => by
    show c_X3_firstBadByte_2 (34 + 2 * d) (loop2 (c_X3_firstBadByte_2 (34 + 2 * d)) n) (nI (stP (X.2.2.2.2.1 d) j)) (putX w X) = _
    have hp : stP (X.2.2.2.2.1 d) j ≤ 100 := by
      rcases hs with h | h
      · subst h; exact Nat.zero_le _
      · omega
    have hD := dig_le (atN (X.2.2.2.2.1 d) (stP (X.2.2.2.2.1 d) j))
    have hat : atS (X.2.2.2.2.1 d) (nI (stP (X.2.2.2.2.1 d) j)) = atN (X.2.2.2.2.1 d) (stP (X.2.2.2.2.1 d) j) := rfl
    unfold scanK badIn
    by_cases h0 : digN (atN (X.2.2.2.2.1 d) (stP (X.2.2.2.2.1 d) j)) = 0
    · rw [if_pos h0]
      simp only [c_X3_firstBadByte_2, S_cV w X hd, S_at w X hd hν, bk_some, hat, p_digitsBehind, h0, if_true, if_false, not_true_eq_false, not_false_eq_true, Bool.false_eq_true, Bool.true_eq_false, reduceIte, ite_true, ite_false]
      rfl
    · rw [if_neg h0]
      have h4 : ¬ nI (digN (atN (X.2.2.2.2.1 d) (stP (X.2.2.2.2.1 d) j))) = -4 := nI_ne4 (by omega)
      have hb := bad24 w X hd hν (loop2 (c_X3_firstBadByte_2 (34 + 2 * d)) n) hp hD (digN (atN (X.2.2.2.2.1 d) (stP (X.2.2.2.2.1 d) j))) 0 a_fuel (by omega) (show digN (atN (X.2.2.2.2.1 d) (stP (X.2.2.2.2.1 d) j)) < 1000 by omega)
      simp only [c_X3_firstBadByte_2, S_cV w X hd, S_at w X hd hν, bk_some, hat, p_digitsBehind, h0, h4, nI_1, if_true, if_false, not_true_eq_false, not_false_eq_true, Bool.false_eq_true, Bool.true_eq_false, reduceIte, ite_true, ite_false]
      refine Eq.trans hb ?_
      rw [Nat.add_zero]
      cases orO (bdF (X.2.2.2.2.1 d) (stP (X.2.2.2.2.1 d) j + 1) (digN (atN (X.2.2.2.2.1 d) (stP (X.2.2.2.2.1 d) j)))) (endB (X.2.2.2.2.1 d) (stP (X.2.2.2.2.1 d) j + 1 + digN (atN (X.2.2.2.2.1 d) (stP (X.2.2.2.2.1 d) j)))) with
      | some z => rfl
      | none =>
        have e : stP (X.2.2.2.2.1 d) j + 1 + digN (atN (X.2.2.2.2.1 d) (stP (X.2.2.2.2.1 d) j)) + 1 = stP (X.2.2.2.2.1 d) (j + 1) := by
          show _ = stP (X.2.2.2.2.1 d) j + 2 + digN (atN (X.2.2.2.2.1 d) (stP (X.2.2.2.2.1 d) j))
          omega
        rw [e, he]
        have hb' : stP (X.2.2.2.2.1 d) (j + 1) < 2 ^ 31 := by omega
        show (if nI (stP (X.2.2.2.2.1 d) (j + 1)) < nI N then loop2 (c_X3_firstBadByte_2 (34 + 2 * d)) n (nI (stP (X.2.2.2.2.1 d) (j + 1))) (putX w X) else some (-4, putX w X)) = some ((if stP (X.2.2.2.2.1 d) (j + 1) < N then scanK (X.2.2.2.2.1 d) N f (j + 1) else .inr (j + 1)).elim nI (fun _ => -4), putX w X)
        by_cases hlt : stP (X.2.2.2.2.1 d) (j + 1) < N
        · rw [if_pos hlt, if_pos ((nI_ltI hb' (by omega)).mpr hlt)]
          exact firstX w X hd hν hN he f (j + 1) n (by omega) (by omega) (Or.inr hlt)
        · rw [if_neg hlt, if_neg (fun z => hlt ((nI_ltI hb' (by omega)).mp z))]
          rfl
def dnB (r : Int32) : Bool := decide (0 ≤ r) || decide (r = -4)
theorem p_done (r : Int32) (w : aW) : f_X3_done r w = some (zb (dnB r), w) := by
  unfold f_X3_done dnB zb
  by_cases h1 : 0 ≤ r
  · simp [h1]
  · by_cases h2 : r = -4 <;> simp [h1, h2]
def stR (r : Int32 × aK) : Option aK := if dnB r.1 = true then some r.2 else none
def nmK (ν : aS) (q n : Nat) : Int32 := numS ν (nI q) n
def stK (ν : aS) (p : Nat) (κ : aK) : Option aK :=
  if atN ν p = 98 then stR (addK (nmK ν (p + 1) 1) (nmK ν (p + 2) 1) (nmK ν (p + 3) 2) κ)
  else if atN ν p = 99 then stR (callsK (nmK ν (p + 1) 1) (nmK ν (p + 2) 1) κ)
  else if atN ν p = 100 then stR (daysOp (nmK ν (p + 1) 2) κ)
  else if atN ν p = 103 then stR (standsK (nmK ν (p + 1) 1) (nmK ν (p + 2) 2) κ)
  else if atN ν p = 112 then (stR (tongueK (nmK ν (p + 1) 1) (nmK ν (p + 2) 1) κ)).bind fun κ1 => (stR (walksK (nmK ν (p + 1) 1) (nmK ν (p + 3) 2) κ1)).bind fun κ2 => stR (meansK (nmK ν (p + 1) 1) (nmK ν (p + 5) 3) κ2)
  else if atN ν p = 117 then stR (answersK (nmK ν (p + 1) 1) κ)
  else none
theorem npl3 (p : Nat) : nI p + 3 = nI (p + 3) := nI_add p 3
theorem npl5 (p : Nat) : nI p + 5 = nI (p + 5) := nI_add p 5
theorem S_n1 (w : aW) (X : aX) {d : Nat} (hd : d < 8) (hν : WFs (X.2.2.2.2.1 d)) (q : Nat) : f_X1_number (34 + 2 * d) (nI q) 1 (putX w X) = some (nmK (X.2.2.2.2.1 d) q 1, putX w X) := S_number w X hd hν (nI q) (n := 1) (by decide)
theorem S_n2 (w : aW) (X : aX) {d : Nat} (hd : d < 8) (hν : WFs (X.2.2.2.2.1 d)) (q : Nat) : f_X1_number (34 + 2 * d) (nI q) 2 (putX w X) = some (nmK (X.2.2.2.2.1 d) q 2, putX w X) := S_number w X hd hν (nI q) (n := 2) (by decide)
theorem S_n3 (w : aW) (X : aX) {d : Nat} (hd : d < 8) (hν : WFs (X.2.2.2.2.1 d)) (q : Nat) : f_X1_number (34 + 2 * d) (nI q) 3 (putX w X) = some (nmK (X.2.2.2.2.1 d) q 3, putX w X) := S_number w X hd hν (nI q) (n := 3) (by decide)
theorem M_n1 (w : aW) (X : aX) {d : Nat} (hd : d < 8) (hν : WFs (X.2.2.2.2.1 d)) (q : Nat) (κ : aK) : f_X1_number (34 + 2 * d) (nI q) 1 (putX w (xmind X κ)) = some (nmK (X.2.2.2.2.1 d) q 1, putX w (xmind X κ)) := S_n1 w (xmind X κ) hd hν q
theorem M_n2 (w : aW) (X : aX) {d : Nat} (hd : d < 8) (hν : WFs (X.2.2.2.2.1 d)) (q : Nat) (κ : aK) : f_X1_number (34 + 2 * d) (nI q) 2 (putX w (xmind X κ)) = some (nmK (X.2.2.2.2.1 d) q 2, putX w (xmind X κ)) := S_n2 w (xmind X κ) hd hν q
theorem M_n3 (w : aW) (X : aX) {d : Nat} (hd : d < 8) (hν : WFs (X.2.2.2.2.1 d)) (q : Nat) (κ : aK) : f_X1_number (34 + 2 * d) (nI q) 3 (putX w (xmind X κ)) = some (nmK (X.2.2.2.2.1 d) q 3, putX w (xmind X κ)) := S_n3 w (xmind X κ) hd hν q
theorem M_at (w : aW) (X : aX) {d : Nat} (hd : d < 8) (hν : WFs (X.2.2.2.2.1 d)) (x : Int32) (κ : aK) : f_X1_at (34 + 2 * d) x (putX w (xmind X κ)) = some (atS (X.2.2.2.2.1 d) x, putX w (xmind X κ)) := S_at w (xmind X κ) hd hν x
theorem M_cV {α : Type} (w : aW) (X : aX) {d : Nat} (hd : d < 8) (κ : aK) (x : Option α) : cV 1 (putX w (xmind X κ)) (34 + 2 * d) x = x := S_cV w (xmind X κ) hd x
theorem T_addBeast (w : aW) (X : aX) {κ : aK} (hk : κ.1 ≤ 9) (s f x : Int32) : f_X0_addBeast 11 s f x (putX w (xmind X κ)) = some ((addK s f x κ).1, putX w (xmind X (addK s f x κ).2)) := by
  rw [X_mind w (xmind X κ), p_addBeast d20 (κ := (xmind X κ).2.1) hk, X_mind']; rfl
theorem T_stands (w : aW) (X : aX) {κ : aK} (hk : κ.1 ≤ 9) (x y : Int32) : f_X0_moveBeast 11 x y (putX w (xmind X κ)) = some ((standsK x y κ).1, putX w (xmind X (standsK x y κ).2)) := by
  rw [X_mind w (xmind X κ), p_stands d20 (κ := (xmind X κ).2.1) hk, X_mind']; rfl
theorem T_calls (w : aW) (X : aX) {κ : aK} (hk : κ.1 ≤ 9) (x y : Int32) : f_X0_callBeast 11 x y (putX w (xmind X κ)) = some ((callsK x y κ).1, putX w (xmind X (callsK x y κ).2)) := by
  rw [X_mind w (xmind X κ), p_calls d20 (κ := (xmind X κ).2.1) hk, X_mind']; rfl
theorem T_answers (w : aW) (X : aX) {κ : aK} (hk : κ.1 ≤ 9) (x : Int32) : f_X0_freeBeast 11 x (putX w (xmind X κ)) = some ((answersK x κ).1, putX w (xmind X (answersK x κ).2)) := by
  rw [X_mind w (xmind X κ), p_answers d20 (κ := (xmind X κ).2.1) hk, X_mind']; rfl
theorem T_tongue (w : aW) (X : aX) {κ : aK} (hk : κ.1 ≤ 9) (x y : Int32) : f_X0_changeTongue 11 x y (putX w (xmind X κ)) = some ((tongueK x y κ).1, putX w (xmind X (tongueK x y κ).2)) := by
  rw [X_mind w (xmind X κ), p_tongue d20 (κ := (xmind X κ).2.1) hk, X_mind']; rfl
theorem T_walks (w : aW) (X : aX) {κ : aK} (hk : κ.1 ≤ 9) (x y : Int32) : f_X0_movePerson 11 x y (putX w (xmind X κ)) = some ((walksK x y κ).1, putX w (xmind X (walksK x y κ).2)) := by
  rw [X_mind w (xmind X κ), p_walks d20 (κ := (xmind X κ).2.1) hk, X_mind']; rfl
theorem T_means (w : aW) (X : aX) {κ : aK} (hk : κ.1 ≤ 9) (x y : Int32) : f_X0_changeMeans 11 x y (putX w (xmind X κ)) = some ((meansK x y κ).1, putX w (xmind X (meansK x y κ).2)) := by
  rw [X_mind w (xmind X κ), p_means d20 (κ := (xmind X κ).2.1) hk, X_mind']; rfl
theorem T_goDays (w : aW) (X : aX) {κ : aK} (hW : WF κ) (x : Int32) : f_X0_goDays 11 x (putX w (xmind X κ)) = some ((daysOp x κ).1, putX w (xmind X (daysOp x κ).2)) := by
  rw [X_mind w (xmind X κ), p_goDays d20 (κ := (xmind X κ).2.1) hW, X_mind']; rfl
/-- what a statement does to what is in mind -/
theorem x_statement (w : aW) (X : aX) {d : Nat} (hd : d < 8) (hν : WFs (X.2.2.2.2.1 d)) (p : Nat) {κ : aK} (hW : WF κ) : (∀ κ', stK (X.2.2.2.2.1 d) p κ = some κ' → f_X3_doStatement 0 (34 + 2 * d) (nI p) (putX w (xmind X κ)) = some (1, putX w (xmind X κ'))) ∧ (stK (X.2.2.2.2.1 d) p κ = none → ∃ μ, f_X3_doStatement 0 (34 + 2 * d) (nI p) (putX w (xmind X κ)) = some (0, putX w (xmind X μ))) := by
  have hk := hW.1
  have hat : atS (X.2.2.2.2.1 d) (nI p) = atN (X.2.2.2.2.1 d) p := rfl
  have key : ∀ (r : Int32 × aK) (a : Option (Int32 × aW)), a = some (zb (dnB r.1), putX w (xmind X r.2)) → (∀ κ', stR r = some κ' → a = some (1, putX w (xmind X κ'))) ∧ (stR r = none → ∃ μ, a = some (0, putX w (xmind X μ))) := by
    intro r a ha
    unfold stR
    by_cases h : dnB r.1 = true
    · rw [if_pos h]
      refine ⟨fun κ' e => ?_, fun e => (by cases e)⟩
      cases e
      rw [ha, h]; rfl
    · rw [if_neg h]
      refine ⟨fun κ' e => (by cases e), fun _ => ⟨r.2, ?_⟩⟩
      rw [ha, Bool.eq_false_iff.mpr h]; rfl
  unfold stK
  by_cases h98 : atN (X.2.2.2.2.1 d) p = 98
  · rw [if_pos h98]
    refine key _ _ ?_
    unfold f_X3_doStatement
    simp only [M_cV w X hd, M_n1 w X hd hν, M_n2 w X hd hν, M_at w X hd hν, xmind_s, hat, h98, nI_1, nI_2, npl3, T_addBeast w X hk, p_done, gR_X0, gR_X1, gR_X2, gI_X3, gR_X4, gR_X5, gR_X6, cV_X, x_think, xmind_1, xmind_0, xmind_2, xnow_0, xnow_1, xnow_2, bk_some, bind_some', zb_0, zb_1, zb_or, cc_or, T_cV, T_gI0, T_gI1, T_gI2, T_gI3, T_gR4, T_gR5, T_gR6, T_gR7, T_gR8, T_gR9, T_gR10, T_gR11, T_gR12, T_hasBeast, T_isAlive, T_calledBy, T_calledByAnybody, T_needTogether, T_workTogether, T_freeOnes, if_true, if_false, not_true_eq_false, not_false_eq_true, Bool.false_eq_true, Bool.true_eq_false, reduceIte, ite_true, ite_false]
  by_cases h99 : atN (X.2.2.2.2.1 d) p = 99
  · rw [if_neg h98, if_pos h99]
    refine key _ _ ?_
    unfold f_X3_doStatement
    simp (decide := true) only [M_cV w X hd, M_n1 w X hd hν, M_n2 w X hd hν, M_at w X hd hν, xmind_s, hat, h99, nI_1, nI_2, npl3, T_calls w X hk, p_done, gR_X0, gR_X1, gR_X2, gI_X3, gR_X4, gR_X5, gR_X6, cV_X, x_think, xmind_1, xmind_0, xmind_2, xnow_0, xnow_1, xnow_2, bk_some, bind_some', zb_0, zb_1, zb_or, cc_or, T_cV, T_gI0, T_gI1, T_gI2, T_gI3, T_gR4, T_gR5, T_gR6, T_gR7, T_gR8, T_gR9, T_gR10, T_gR11, T_gR12, T_hasBeast, T_isAlive, T_calledBy, T_calledByAnybody, T_needTogether, T_workTogether, T_freeOnes, if_true, if_false, not_true_eq_false, not_false_eq_true, Bool.false_eq_true, Bool.true_eq_false, reduceIte, ite_true, ite_false]
  by_cases h100 : atN (X.2.2.2.2.1 d) p = 100
  · rw [if_neg h98, if_neg h99, if_pos h100]
    refine key _ _ ?_
    unfold f_X3_doStatement
    simp (decide := true) only [M_cV w X hd, M_n1 w X hd hν, M_n2 w X hd hν, M_at w X hd hν, xmind_s, hat, h100, nI_1, nI_2, npl3, T_goDays w X hW, p_done, gR_X0, gR_X1, gR_X2, gI_X3, gR_X4, gR_X5, gR_X6, cV_X, x_think, xmind_1, xmind_0, xmind_2, xnow_0, xnow_1, xnow_2, bk_some, bind_some', zb_0, zb_1, zb_or, cc_or, T_cV, T_gI0, T_gI1, T_gI2, T_gI3, T_gR4, T_gR5, T_gR6, T_gR7, T_gR8, T_gR9, T_gR10, T_gR11, T_gR12, T_hasBeast, T_isAlive, T_calledBy, T_calledByAnybody, T_needTogether, T_workTogether, T_freeOnes, if_true, if_false, not_true_eq_false, not_false_eq_true, Bool.false_eq_true, Bool.true_eq_false, reduceIte, ite_true, ite_false]
  by_cases h103 : atN (X.2.2.2.2.1 d) p = 103
  · rw [if_neg h98, if_neg h99, if_neg h100, if_pos h103]
    refine key _ _ ?_
    unfold f_X3_doStatement
    simp (decide := true) only [M_cV w X hd, M_n1 w X hd hν, M_n2 w X hd hν, M_at w X hd hν, xmind_s, hat, h103, nI_1, nI_2, npl3, T_stands w X hk, p_done, gR_X0, gR_X1, gR_X2, gI_X3, gR_X4, gR_X5, gR_X6, cV_X, x_think, xmind_1, xmind_0, xmind_2, xnow_0, xnow_1, xnow_2, bk_some, bind_some', zb_0, zb_1, zb_or, cc_or, T_cV, T_gI0, T_gI1, T_gI2, T_gI3, T_gR4, T_gR5, T_gR6, T_gR7, T_gR8, T_gR9, T_gR10, T_gR11, T_gR12, T_hasBeast, T_isAlive, T_calledBy, T_calledByAnybody, T_needTogether, T_workTogether, T_freeOnes, if_true, if_false, not_true_eq_false, not_false_eq_true, Bool.false_eq_true, Bool.true_eq_false, reduceIte, ite_true, ite_false]
  by_cases h112 : atN (X.2.2.2.2.1 d) p = 112
  · rw [if_neg h98, if_neg h99, if_neg h100, if_neg h103, if_pos h112]
    have hW1 := tongue_WF hW (nmK (X.2.2.2.2.1 d) (p + 1) 1) (nmK (X.2.2.2.2.1 d) (p + 2) 1)
    have hW2 := walks_WF hW1 (nmK (X.2.2.2.2.1 d) (p + 1) 1) (nmK (X.2.2.2.2.1 d) (p + 3) 2)
    by_cases g1 : dnB (tongueK (nmK (X.2.2.2.2.1 d) (p + 1) 1) (nmK (X.2.2.2.2.1 d) (p + 2) 1) κ).1 = true
    · rw [show stR (tongueK (nmK (X.2.2.2.2.1 d) (p + 1) 1) (nmK (X.2.2.2.2.1 d) (p + 2) 1) κ) = some _ from if_pos g1]
      simp only [Option.bind_some]
      by_cases g2 : dnB (walksK (nmK (X.2.2.2.2.1 d) (p + 1) 1) (nmK (X.2.2.2.2.1 d) (p + 3) 2) (tongueK (nmK (X.2.2.2.2.1 d) (p + 1) 1) (nmK (X.2.2.2.2.1 d) (p + 2) 1) κ).2).1 = true
      · rw [show stR (walksK (nmK (X.2.2.2.2.1 d) (p + 1) 1) (nmK (X.2.2.2.2.1 d) (p + 3) 2) (tongueK (nmK (X.2.2.2.2.1 d) (p + 1) 1) (nmK (X.2.2.2.2.1 d) (p + 2) 1) κ).2) = some _ from if_pos g2]
        simp only [Option.bind_some]
        refine key _ _ ?_
        unfold f_X3_doStatement
        simp (decide := true) only [M_cV w X hd, M_n1 w X hd hν, M_n2 w X hd hν, M_n3 w X hd hν, M_at w X hd hν, xmind_s, hat, h112, nI_1, nI_2, npl3, npl5, T_tongue w X hk, T_walks w X hW1.1, T_means w X hW2.1, p_done, g1, g2, gR_X0, gR_X1, gR_X2, gI_X3, gR_X4, gR_X5, gR_X6, cV_X, x_think, xmind_1, xmind_0, xmind_2, xnow_0, xnow_1, xnow_2, bk_some, bind_some', zb_0, zb_1, zb_or, cc_or, T_cV, T_gI0, T_gI1, T_gI2, T_gI3, T_gR4, T_gR5, T_gR6, T_gR7, T_gR8, T_gR9, T_gR10, T_gR11, T_gR12, T_hasBeast, T_isAlive, T_calledBy, T_calledByAnybody, T_needTogether, T_workTogether, T_freeOnes, if_true, if_false, not_true_eq_false, not_false_eq_true, Bool.false_eq_true, Bool.true_eq_false, reduceIte, ite_true, ite_false]
        cases dnB (meansK (nmK (X.2.2.2.2.1 d) (p + 1) 1) (nmK (X.2.2.2.2.1 d) (p + 5) 3) (walksK (nmK (X.2.2.2.2.1 d) (p + 1) 1) (nmK (X.2.2.2.2.1 d) (p + 3) 2) (tongueK (nmK (X.2.2.2.2.1 d) (p + 1) 1) (nmK (X.2.2.2.2.1 d) (p + 2) 1) κ).2).2).1 <;> rfl
      · rw [show stR (walksK (nmK (X.2.2.2.2.1 d) (p + 1) 1) (nmK (X.2.2.2.2.1 d) (p + 3) 2) (tongueK (nmK (X.2.2.2.2.1 d) (p + 1) 1) (nmK (X.2.2.2.2.1 d) (p + 2) 1) κ).2) = none from if_neg g2]
        refine ⟨fun κ' e => (by cases e), fun _ => ⟨(walksK (nmK (X.2.2.2.2.1 d) (p + 1) 1) (nmK (X.2.2.2.2.1 d) (p + 3) 2) (tongueK (nmK (X.2.2.2.2.1 d) (p + 1) 1) (nmK (X.2.2.2.2.1 d) (p + 2) 1) κ).2).2, ?_⟩⟩
        have g2 := Bool.eq_false_iff.mpr g2
        unfold f_X3_doStatement
        simp (decide := true) only [M_cV w X hd, M_n1 w X hd hν, M_n2 w X hd hν, M_n3 w X hd hν, M_at w X hd hν, xmind_s, hat, h112, nI_1, nI_2, npl3, npl5, T_tongue w X hk, T_walks w X hW1.1, p_done, g1, g2, gR_X0, gR_X1, gR_X2, gI_X3, gR_X4, gR_X5, gR_X6, cV_X, x_think, xmind_1, xmind_0, xmind_2, xnow_0, xnow_1, xnow_2, bk_some, bind_some', zb_0, zb_1, zb_or, cc_or, T_cV, T_gI0, T_gI1, T_gI2, T_gI3, T_gR4, T_gR5, T_gR6, T_gR7, T_gR8, T_gR9, T_gR10, T_gR11, T_gR12, T_hasBeast, T_isAlive, T_calledBy, T_calledByAnybody, T_needTogether, T_workTogether, T_freeOnes, if_true, if_false, not_true_eq_false, not_false_eq_true, Bool.false_eq_true, Bool.true_eq_false, reduceIte, ite_true, ite_false]
    · rw [show stR (tongueK (nmK (X.2.2.2.2.1 d) (p + 1) 1) (nmK (X.2.2.2.2.1 d) (p + 2) 1) κ) = none from if_neg g1]
      refine ⟨fun κ' e => (by cases e), fun _ => ⟨(tongueK (nmK (X.2.2.2.2.1 d) (p + 1) 1) (nmK (X.2.2.2.2.1 d) (p + 2) 1) κ).2, ?_⟩⟩
      have g1 := Bool.eq_false_iff.mpr g1
      unfold f_X3_doStatement
      simp (decide := true) only [M_cV w X hd, M_n1 w X hd hν, M_n2 w X hd hν, M_n3 w X hd hν, M_at w X hd hν, xmind_s, hat, h112, nI_1, nI_2, npl3, npl5, T_tongue w X hk, p_done, g1, gR_X0, gR_X1, gR_X2, gI_X3, gR_X4, gR_X5, gR_X6, cV_X, x_think, xmind_1, xmind_0, xmind_2, xnow_0, xnow_1, xnow_2, bk_some, bind_some', zb_0, zb_1, zb_or, cc_or, T_cV, T_gI0, T_gI1, T_gI2, T_gI3, T_gR4, T_gR5, T_gR6, T_gR7, T_gR8, T_gR9, T_gR10, T_gR11, T_gR12, T_hasBeast, T_isAlive, T_calledBy, T_calledByAnybody, T_needTogether, T_workTogether, T_freeOnes, if_true, if_false, not_true_eq_false, not_false_eq_true, Bool.false_eq_true, Bool.true_eq_false, reduceIte, ite_true, ite_false]
  by_cases h117 : atN (X.2.2.2.2.1 d) p = 117
  · rw [if_neg h98, if_neg h99, if_neg h100, if_neg h103, if_neg h112, if_pos h117]
    refine key _ _ ?_
    unfold f_X3_doStatement
    simp (decide := true) only [M_cV w X hd, M_n1 w X hd hν, M_n2 w X hd hν, M_at w X hd hν, xmind_s, hat, h117, nI_1, nI_2, npl3, T_answers w X hk, p_done, gR_X0, gR_X1, gR_X2, gI_X3, gR_X4, gR_X5, gR_X6, cV_X, x_think, xmind_1, xmind_0, xmind_2, xnow_0, xnow_1, xnow_2, bk_some, bind_some', zb_0, zb_1, zb_or, cc_or, T_cV, T_gI0, T_gI1, T_gI2, T_gI3, T_gR4, T_gR5, T_gR6, T_gR7, T_gR8, T_gR9, T_gR10, T_gR11, T_gR12, T_hasBeast, T_isAlive, T_calledBy, T_calledByAnybody, T_needTogether, T_workTogether, T_freeOnes, if_true, if_false, not_true_eq_false, not_false_eq_true, Bool.false_eq_true, Bool.true_eq_false, reduceIte, ite_true, ite_false]
  · rw [if_neg h98, if_neg h99, if_neg h100, if_neg h103, if_neg h112, if_neg h117]
    refine ⟨fun κ' e => (by cases e), fun _ => ⟨κ, ?_⟩⟩
    unfold f_X3_doStatement
    simp only [M_cV w X hd, M_n1 w X hd hν, M_at w X hd hν, xmind_s, hat, h98, h99, h100, h103, h112, h117, nI_1, ite_self, gR_X0, gR_X1, gR_X2, gI_X3, gR_X4, gR_X5, gR_X6, cV_X, x_think, xmind_1, xmind_0, xmind_2, xnow_0, xnow_1, xnow_2, bk_some, bind_some', zb_0, zb_1, zb_or, cc_or, T_cV, T_gI0, T_gI1, T_gI2, T_gI3, T_gR4, T_gR5, T_gR6, T_gR7, T_gR8, T_gR9, T_gR10, T_gR11, T_gR12, T_hasBeast, T_isAlive, T_calledBy, T_calledByAnybody, T_needTogether, T_workTogether, T_freeOnes, if_true, if_false, not_true_eq_false, not_false_eq_true, Bool.false_eq_true, Bool.true_eq_false, reduceIte, ite_true, ite_false]
