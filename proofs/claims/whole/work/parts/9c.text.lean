/-! PURE: mountain at the class -/
theorem at_out {ν : aS} {N p : Nat} (hN : N ≤ 100) (he : ν.1 4 = nI N) (hp : p < 2 ^ 31) (h : N ≤ p) : atN ν p = 0 := by
  unfold atN atS
  rw [he, if_neg]
  intro hc
  obtain ⟨b, hb, e⟩ := inN hN hc
  rw [nI_eq hp (by omega)] at e
  omega
theorem bad_in {ν : aS} {N p : Nat} (hN : N ≤ 100) (he : ν.1 4 = nI N) (hp : p < 2 ^ 31) (h : badIn ν p = none) : p < N := by
  rcases Nat.lt_or_ge p N with h1 | h1
  · exact h1
  · unfold badIn at h
    rw [at_out hN he hp h1, if_pos (by decide)] at h
    cases h
theorem orO_none {o o' : Option Nat} (h : orO o o' = none) : o = none ∧ o' = none := by
  cases o with
  | some z => cases h
  | none => exact ⟨rfl, h⟩
theorem bad_none {ν : aS} {p : Nat} (h : badIn ν p = none) : ¬ digN (atN ν p) = 0 ∧ bdF ν (p + 1) (digN (atN ν p)) = none ∧ atN ν (p + 1 + digN (atN ν p)) = 59 := by
  unfold badIn at h
  by_cases h0 : digN (atN ν p) = 0
  · rw [if_pos h0] at h; cases h
  · rw [if_neg h0] at h
    obtain ⟨h1, h2⟩ := orO_none h
    refine ⟨h0, h1, ?_⟩
    unfold endB at h2
    by_cases h3 : atN ν (p + 1 + digN (atN ν p)) = 59
    · exact h3
    · rw [if_neg h3] at h2; cases h2
theorem scan_good {ν : aS} {N : Nat} (hN : N ≤ 100) : ∀ (f j M : Nat), j + f = 60 → scanK ν N f j = .inr M → j ≤ M ∧ M ≤ 60 ∧ N ≤ stP ν M ∧ (0 < f → j < M) ∧ ∀ i, j ≤ i → i < M → badIn ν (stP ν i) = none
  | 0, j, M, hj, h => by
    have h' : j = M := by
      have h' : (Sum.inr j : Nat ⊕ Nat) = .inr M := h
      injection h'
    subst h'
    have := stP_ge ν j
    exact ⟨Nat.le_refl _, by omega, by omega, fun z => by omega, fun i h1 h2 => by omega⟩
  | f + 1, j, M, hj, h => by
    unfold scanK at h
    cases hb : badIn ν (stP ν j) with
    | some q => rw [hb] at h; cases h
    | none =>
      rw [hb] at h
      have h : (if stP ν (j + 1) < N then scanK ν N f (j + 1) else .inr (j + 1)) = .inr M := h
      by_cases hlt : stP ν (j + 1) < N
      · rw [if_pos hlt] at h
        obtain ⟨h1, h2, h3, h4, h5⟩ := scan_good hN f (j + 1) M (by omega) h
        refine ⟨by omega, h2, h3, fun _ => by omega, fun i g1 g2 => ?_⟩
        by_cases hi : i = j
        · rw [hi]; exact hb
        · exact h5 i (by omega) g2
      · rw [if_neg hlt] at h
        have h' : j + 1 = M := by injection h
        refine ⟨by omega, by omega, by rw [← h']; omega, fun _ => by omega, fun i g1 g2 => ?_⟩
        rw [show i = j by omega]
        exact hb
def runK (ν : aS) : Nat → Nat → aK → Nat ⊕ aK
  | 0, _, κ => .inr κ
  | m + 1, j, κ => (stK ν (stP ν j) κ).elim (.inl j) (fun κ' => runK ν m (j + 1) κ')
theorem stR_WF {r : Int32 × aK} (h : WF r.2) {κ' : aK} (e : stR r = some κ') : WF κ' := by
  unfold stR at e
  split at e
  · cases e; exact h
  · cases e
theorem stR_CA {r : Int32 × aK} (h : CA r.2) {κ' : aK} (e : stR r = some κ') : CA κ' := by
  unfold stR at e
  split at e
  · cases e; exact h
  · cases e
theorem st_good {ν : aS} {p : Nat} {κ κ' : aK} (hW : WF κ) (hC : CA κ) (h : stK ν p κ = some κ') : WF κ' ∧ CA κ' := by
  unfold stK at h
  by_cases h98 : atN ν p = 98
  · rw [if_pos h98] at h
    exact ⟨stR_WF (add_WF hW _ _ _) h, stR_CA (add_CA hC _ _ _) h⟩
  rw [if_neg h98] at h
  by_cases h99 : atN ν p = 99
  · rw [if_pos h99] at h
    exact ⟨stR_WF (calls_WF hW _ _) h, stR_CA (calls_CA hW hC _ _) h⟩
  rw [if_neg h99] at h
  by_cases h100 : atN ν p = 100
  · rw [if_pos h100] at h
    exact ⟨stR_WF (daysOp_WF hW _) h, stR_CA (daysOp_CA hC _) h⟩
  rw [if_neg h100] at h
  by_cases h103 : atN ν p = 103
  · rw [if_pos h103] at h
    exact ⟨stR_WF (stands_WF hW _ _) h, stR_CA (stands_CA hC _ _) h⟩
  rw [if_neg h103] at h
  by_cases h112 : atN ν p = 112
  · rw [if_pos h112] at h
    cases e1 : stR (tongueK (nmK ν (p + 1) 1) (nmK ν (p + 2) 1) κ) with
    | none => rw [e1] at h; cases h
    | some κ1 =>
      rw [e1] at h
      have h : (stR (walksK (nmK ν (p + 1) 1) (nmK ν (p + 3) 2) κ1)).bind (fun κ2 => stR (meansK (nmK ν (p + 1) 1) (nmK ν (p + 5) 3) κ2)) = some κ' := h
      have w1 := stR_WF (tongue_WF hW _ _) e1
      have c1 := stR_CA (tongue_CA hC _ _) e1
      cases e2 : stR (walksK (nmK ν (p + 1) 1) (nmK ν (p + 3) 2) κ1) with
      | none => rw [e2] at h; cases h
      | some κ2 =>
        rw [e2] at h
        have h : stR (meansK (nmK ν (p + 1) 1) (nmK ν (p + 5) 3) κ2) = some κ' := h
        have w2 := stR_WF (walks_WF w1 _ _) e2
        have c2 := stR_CA (walks_CA c1 _ _) e2
        exact ⟨stR_WF (means_WF w2 _ _) h, stR_CA (means_CA c2 _ _) h⟩
  rw [if_neg h112] at h
  by_cases h117 : atN ν p = 117
  · rw [if_pos h117] at h
    exact ⟨stR_WF (answers_WF hW _) h, stR_CA (answers_CA hC _) h⟩
  · rw [if_neg h117] at h; cases h
theorem run_good {ν : aS} : ∀ (m j : Nat) {κ κ' : aK}, WF κ → CA κ → runK ν m j κ = .inr κ' → WF κ' ∧ CA κ'
  | 0, _, κ, κ', hW, hC, h => by
    have h : (Sum.inr κ : Nat ⊕ aK) = .inr κ' := h
    have e : κ = κ' := by injection h
    subst e; exact ⟨hW, hC⟩
  | m + 1, j, κ, κ', hW, hC, h => by
    unfold runK at h
    cases e : stK ν (stP ν j) κ with
    | none => rw [e] at h; cases h
    | some κ1 =>
      rw [e] at h
      obtain ⟨w1, c1⟩ := st_good hW hC e
      exact run_good m (j + 1) w1 c1 h
theorem step_dig (p : Nat) (D : Nat) (hD : D ≤ 7) : nI p + (2 + (if (0 : Int32) < (if D = 0 then -4 else nI D) then (if D = 0 then -4 else nI D) else 0)) = nI (p + 2 + D) := by
  have e : (2 : Int32) + (if (0 : Int32) < (if D = 0 then -4 else nI D) then (if D = 0 then -4 else nI D) else 0) = nI (2 + D) := by
    have key : ∀ D, D < 8 → (2 : Int32) + (if (0 : Int32) < (if D = 0 then -4 else nI D) then (if D = 0 then -4 else nI D) else 0) = nI (2 + D) := by decide
    exact key D (by omega)
  rw [e, nI_add, Nat.add_assoc]
theorem runX (w : aW) (X : aX) (x : Int32) {d N M : Nat} (hd : d < 8) (hν : WFs (X.2.2.2.2.1 d)) (hN : N ≤ 100) (he : (X.2.2.2.2.1 d).1 4 = nI N) (hM : N ≤ stP (X.2.2.2.2.1 d) M) (hs : ∀ i, i < M → stP (X.2.2.2.2.1 d) i < N) : ∀ (m j : Nat) (κ : aK) (n : Nat), j + m = M → m < n → WF κ → CA κ → (∀ j', runK (X.2.2.2.2.1 d) m j κ = .inl j' → ∃ μ, loop4 (c_X3_mountain_59 0 x) n (34 + 2 * d) (nI j) (nI (stP (X.2.2.2.2.1 d) j)) (putX w (xmind X κ)) = some (-2000 - nI (stP (X.2.2.2.2.1 d) j'), putX w (xmind X μ))) ∧ (∀ κ', runK (X.2.2.2.2.1 d) m j κ = .inr κ' → ∃ μ, loop4 (c_X3_mountain_59 0 x) n (34 + 2 * d) (nI j) (nI (stP (X.2.2.2.2.1 d) j)) (putX w (xmind X κ)) = some (nI M, putX w (xmind (xnow X κ') μ)))
  | 0, j, κ, n + 1, hj, _, hW, hC => by
    have : j = M := by omega
    subst this
    refine ⟨fun j' h => (by cases h), fun κ' h => ⟨κ, ?_⟩⟩
    have h : (Sum.inr κ : Nat ⊕ aK) = .inr κ' := h
    have e : κ = κ' := by injection h
    subst e
    rw [loop4_s]
    by_cases hb : stP (X.2.2.2.2.1 d) j < 2 ^ 31
    · have hle : nI N ≤ nI (stP (X.2.2.2.2.1 d) j) := (nI_leI (by omega) hb).mpr hM
      have eb := p_becomeAs (w := putX w (xmind X κ)) (j1 := 1) (j2 := 11) (by decide) (by decide) (by decide) (xmind X κ).1 (xmind X κ).2.1
      rw [← X_mind, ← X_now, X_now'] at eb
      simp only [c_X3_mountain_59, S_gI4 w (xmind X κ) hd, xmind_s, he, bind_some', hle, gR_X0, gR_X1, N_cV, eb, bk_some, if_true, if_false, not_true_eq_false, not_false_eq_true, Bool.false_eq_true, Bool.true_eq_false, reduceIte, ite_true, ite_false]
      rfl
    · exfalso
      have hD := dig_le (atN (X.2.2.2.2.1 d) (stP (X.2.2.2.2.1 d) (j - 1)))
      cases j with
      | zero => exact hb (show 0 < 2 ^ 31 by decide)
      | succ j0 =>
        have h1 := hs j0 (by omega)
        have hD := dig_le (atN (X.2.2.2.2.1 d) (stP (X.2.2.2.2.1 d) j0))
        have h2 : stP (X.2.2.2.2.1 d) (j0 + 1) = stP (X.2.2.2.2.1 d) j0 + 2 + digN (atN (X.2.2.2.2.1 d) (stP (X.2.2.2.2.1 d) j0)) := rfl
        omega
  | m + 1, j, κ, n + 1, hj, hn, hW, hC => by
    have hsj := hs j (by omega)
    have hlt : ¬ nI N ≤ nI (stP (X.2.2.2.2.1 d) j) := le_nIb (by omega) (by omega) hsj
    have hat : atS (X.2.2.2.2.1 d) (nI (stP (X.2.2.2.2.1 d) j)) = atN (X.2.2.2.2.1 d) (stP (X.2.2.2.2.1 d) j) := rfl
    have hD := dig_le (atN (X.2.2.2.2.1 d) (stP (X.2.2.2.2.1 d) j))
    obtain ⟨s1, s2⟩ := x_statement w X hd hν (stP (X.2.2.2.2.1 d) j) hW
    rw [loop4_s]
    unfold runK
    cases e : stK (X.2.2.2.2.1 d) (stP (X.2.2.2.2.1 d) j) κ with
    | none =>
      obtain ⟨μ, hμ⟩ := s2 e
      refine ⟨fun j' h => ⟨μ, ?_⟩, fun κ' h => (by cases h)⟩
      have h : (Sum.inl j : Nat ⊕ aK) = .inl j' := h
      have ej : j = j' := by injection h
      subst ej
      simp only [c_X3_mountain_59, S_gI4 w (xmind X κ) hd, xmind_s, he, hlt, hμ, gR_X0, gR_X1, gR_X2, gI_X3, gR_X4, gR_X5, gR_X6, cV_X, x_think, xmind_1, xmind_0, xmind_2, xnow_0, xnow_1, xnow_2, bk_some, bind_some', zb_0, zb_1, zb_or, cc_or, if_true, if_false, not_true_eq_false, not_false_eq_true, Bool.false_eq_true, Bool.true_eq_false, reduceIte, ite_true, ite_false]
    | some κ1 =>
      have hst := s1 κ1 e
      obtain ⟨w1, c1⟩ := st_good hW hC e
      have ih := runX w X x hd hν hN he hM hs m (j + 1) κ1 n (by omega) (by omega) w1 c1
      have hgo : ∀ k, c_X3_mountain_59 0 x k (34 + 2 * d) (nI j) (nI (stP (X.2.2.2.2.1 d) j)) (putX w (xmind X κ)) = k (34 + 2 * d) (nI (j + 1)) (nI (stP (X.2.2.2.2.1 d) (j + 1))) (putX w (xmind X κ1)) := fun k => by
        have e2 := step_dig (stP (X.2.2.2.2.1 d) j) (digN (atN (X.2.2.2.2.1 d) (stP (X.2.2.2.2.1 d) j))) hD
        simp only [c_X3_mountain_59, S_gI4 w (xmind X κ) hd, xmind_s, he, hlt, hst, M_cV w X hd, M_at w X hd hν, hat, p_digitsBehind, show ¬ (1 : Int32) = 0 by decide, e2, nI_1, gR_X0, gR_X1, gR_X2, gI_X3, gR_X4, gR_X5, gR_X6, cV_X, x_think, xmind_1, xmind_0, xmind_2, xnow_0, xnow_1, xnow_2, bk_some, bind_some', zb_0, zb_1, zb_or, cc_or, if_true, if_false, not_true_eq_false, not_false_eq_true, Bool.false_eq_true, Bool.true_eq_false, reduceIte, ite_true, ite_false]
        rfl
      rw [hgo]
      exact ih
def mtn2 (ν : aS) (M : Nat) (κ : aK) : Int32 × aK := (runK ν M 0 κ).elim (fun j => (-2000 - nI (stP ν j), κ)) (fun κ' => (nI M, κ'))
def mtn1 (ν : aS) (κ : aK) : Int32 × aK := (scanK ν (szN ν) 60 0).elim (fun q => (-1000 - nI q, κ)) (fun M => mtn2 ν M κ)
def mtnK (x : Int32) (κ : aK) (σ : Nat → aS) : Int32 × aK :=
  if inR x 0 7 = true then (if (σ (ix x)).1 0 = 0 then (-11, κ) else if (decide ((σ (ix x)).1 0 = 2) && decide ((σ (ix x)).1 3 = 0)) = true then mtn1 (σ (ix x)) κ else (-12, κ)) else (-1, κ)
theorem mtn1_bad {ν : aS} {κ : aK} {q : Nat} (h : scanK ν (szN ν) 60 0 = .inl q) : mtn1 ν κ = (-1000 - nI q, κ) := by
  unfold mtn1
  simp only [h, Sum.elim_inl, Sum.elim_inr]
theorem mtn1_good {ν : aS} {κ : aK} {M : Nat} (h : scanK ν (szN ν) 60 0 = .inr M) : mtn1 ν κ = mtn2 ν M κ := by
  unfold mtn1
  simp only [h, Sum.elim_inl, Sum.elim_inr]
theorem mtn2_bad {ν : aS} {κ : aK} {M j : Nat} (h : runK ν M 0 κ = .inl j) : mtn2 ν M κ = (-2000 - nI (stP ν j), κ) := by
  unfold mtn2
  simp only [h, Sum.elim_inl, Sum.elim_inr]
theorem mtn2_good {ν : aS} {κ κ' : aK} {M : Nat} (h : runK ν M 0 κ = .inr κ') : mtn2 ν M κ = (nI M, κ') := by
  unfold mtn2
  simp only [h, Sum.elim_inl, Sum.elim_inr]
theorem bad_rng {ν : aS} {p z : Nat} (h : badIn ν p = some z) : z ≤ p + 8 := by
  have hD := dig_le (atN ν p)
  unfold badIn at h
  by_cases h0 : digN (atN ν p) = 0
  · rw [if_pos h0] at h; cases h; omega
  · rw [if_neg h0] at h
    cases hb : bdF ν (p + 1) (digN (atN ν p)) with
    | some y =>
      rw [hb] at h
      have h : some y = some z := h
      cases h
      have := fnd_lt hb
      omega
    | none =>
      rw [hb] at h
      have h : endB ν (p + 1 + digN (atN ν p)) = some z := h
      unfold endB at h
      split at h
      · cases h
      · cases h; omega
theorem scan_rng {ν : aS} {N : Nat} (hN : N ≤ 100) : ∀ (f j q : Nat), (j = 0 ∨ stP ν j < N) → scanK ν N f j = .inl q → q < 2 ^ 31
  | 0, j, q, _, h => by cases h
  | f + 1, j, q, hj, h => by
    unfold scanK at h
    cases hb : badIn ν (stP ν j) with
    | some z =>
      rw [hb] at h
      have h : (Sum.inl z : Nat ⊕ Nat) = .inl q := h
      have e : z = q := by injection h
      subst e
      have := bad_rng hb
      rcases hj with h1 | h1
      · subst h1
        have : stP ν 0 = 0 := rfl
        omega
      · omega
    | none =>
      rw [hb] at h
      have h : (if stP ν (j + 1) < N then scanK ν N f (j + 1) else .inr (j + 1)) = .inl q := h
      by_cases hlt : stP ν (j + 1) < N
      · rw [if_pos hlt] at h
        exact scan_rng hN f (j + 1) q (Or.inr hlt) h
      · rw [if_neg hlt] at h; cases h
theorem text_lt {ν : aS} {N M : Nat} (hN : N ≤ 100) (he : ν.1 4 = nI N) (g5 : ∀ i, 0 ≤ i → i < M → badIn ν (stP ν i) = none) : ∀ i, i < M → stP ν i < N
  | 0, hi => bad_in hN he (show 0 < 2 ^ 31 by decide) (g5 0 (Nat.le_refl 0) hi)
  | i + 1, hi => by
    have hD := dig_le (atN ν (stP ν i))
    have h2 : stP ν (i + 1) = stP ν i + 2 + digN (atN ν (stP ν i)) := rfl
    have h3 := text_lt hN he g5 i (by omega)
    exact bad_in hN he (by omega) (g5 (i + 1) (Nat.zero_le _) hi)
theorem xself (X : aX) : xmind X X.2.1 = X := rfl
theorem bk_s {α β : Type} (r : α) (w : aW) (g : α → aW → Option β) : bk (some (r, w)) g = g r w := Eq.trans rfl rfl
theorem bi_s {α β : Type} (x : α) (g : α → Option β) : (some x).bind g = g x := Eq.trans rfl rfl
theorem oc_s {β : Type} (a : Nat) (n : β) (g : Nat → β) : oc (some a) n g = g a := Eq.trans rfl rfl
theorem x_mtn_no (w : aW) (X : aX) {d : Nat} (hd : d < 8) (h2 : ¬ (X.2.2.2.2.1 d).1 0 = 0) (h3 : (decide ((X.2.2.2.2.1 d).1 0 = 2) && decide ((X.2.2.2.2.1 d).1 3 = 0)) = true) (q : Int32) (hq : ¬ q = -4) (hfb : f_X3_firstBadByte (34 + 2 * d) (putX w X) = some (q, putX w X)) : f_X3_mountain 0 (nI d) (putX w X) = some (-1000 - q, putX w X) := by
  unfold f_X3_mountain
  simp only [h2, h3, bk_s, bi_s, zb_0, cV_X, x_shelfAt w X hd, oc_s, S_gI0 w X hd, S_cV w X hd, S_holdsBytes w X hd, hfb, hq, if_true, if_false, not_true_eq_false, not_false_eq_true, Bool.false_eq_true, Bool.true_eq_false, reduceIte, ite_true, ite_false]
theorem x_mtn_go (w : aW) (X : aX) {d : Nat} (hd : d < 8) (h2 : ¬ (X.2.2.2.2.1 d).1 0 = 0) (h3 : (decide ((X.2.2.2.2.1 d).1 0 = 2) && decide ((X.2.2.2.2.1 d).1 3 = 0)) = true) (hfb : f_X3_firstBadByte (34 + 2 * d) (putX w X) = some (-4, putX w X)) : f_X3_mountain 0 (nI d) (putX w X) = loop4 (c_X3_mountain_59 0 (nI d)) a_fuel (34 + 2 * d) 0 0 (putX w (xmind X X.1)) := by
  unfold f_X3_mountain
  simp only [h2, h3, bk_s, bi_s, zb_0, cV_X, x_think, x_shelfAt w X hd, oc_s, S_gI0 w X hd, S_cV w X hd, S_holdsBytes w X hd, hfb, if_true, if_false, not_true_eq_false, not_false_eq_true, Bool.false_eq_true, Bool.true_eq_false, reduceIte, ite_true, ite_false]
theorem x_fb (w : aW) (X : aX) {d N : Nat} (hd : d < 8) (hν : WFs (X.2.2.2.2.1 d)) (hN : N ≤ 100) (he : (X.2.2.2.2.1 d).1 4 = nI N) : f_X3_firstBadByte (34 + 2 * d) (putX w X) = some ((scanK (X.2.2.2.2.1 d) N 60 0).elim nI (fun _ => -4), putX w X) := firstX w X hd hν hN he 60 0 a_fuel rfl (by decide) (Or.inl rfl)
theorem x_run0 (w : aW) (X : aX) {d N M : Nat} (hd : d < 8) (hν : WFs (X.2.2.2.2.1 d)) (hN : N ≤ 100) (he : (X.2.2.2.2.1 d).1 4 = nI N) (hM60 : M ≤ 60) (hM : N ≤ stP (X.2.2.2.2.1 d) M) (hs : ∀ i, i < M → stP (X.2.2.2.2.1 d) i < N) (hW : WF X.1) (hC : CA X.1) : ∃ μ, loop4 (c_X3_mountain_59 0 (nI d)) a_fuel (34 + 2 * d) 0 0 (putX w (xmind X X.1)) = some ((mtn2 (X.2.2.2.2.1 d) M X.1).1, putX w (xmind (xnow X (mtn2 (X.2.2.2.2.1 d) M X.1).2) μ)) := by
  obtain ⟨r1, r2⟩ := runX w X (nI d) hd hν hN he hM hs M 0 X.1 a_fuel (by omega) (show M < 1000 by omega) hW hC
  have e0 : nI (stP (X.2.2.2.2.1 d) 0) = 0 := rfl
  have e1 : nI 0 = 0 := rfl
  rw [e0, e1] at r1 r2
  cases hr : runK (X.2.2.2.2.1 d) M 0 X.1 with
  | inl j =>
    obtain ⟨μ, hμ⟩ := r1 j hr
    rw [mtn2_bad hr, hμ]
    exact ⟨μ, congrArg (fun W => some (-2000 - nI (stP (X.2.2.2.2.1 d) j), putX w (xmind W μ))) (xnow_self X).symm⟩
  | inr κ' =>
    obtain ⟨μ, hμ⟩ := r2 κ' hr
    rw [mtn2_good hr, hμ]
    exact ⟨μ, Eq.refl _⟩
theorem x_mtn1 (w : aW) {X : aX} (hW : WF X.1) (hC : CA X.1) {d : Nat} (hd : d < 8) (hν : WFs (X.2.2.2.2.1 d)) (h2 : ¬ (X.2.2.2.2.1 d).1 0 = 0) (h3 : (decide ((X.2.2.2.2.1 d).1 0 = 2) && decide ((X.2.2.2.2.1 d).1 3 = 0)) = true) : ∃ μ, f_X3_mountain 0 (nI d) (putX w X) = some ((mtn1 (X.2.2.2.2.1 d) X.1).1, putX w (xmind (xnow X (mtn1 (X.2.2.2.2.1 d) X.1).2) μ)) := by
  obtain ⟨N, hN, he⟩ := hν.2.1
  have hfb := x_fb w X hd hν hN he
  have hsz := sz_of hN he
  cases hs : scanK (X.2.2.2.2.1 d) N 60 0 with
  | inl q =>
    rw [mtn1_bad (by rw [hsz]; exact hs)]
    rw [hs, Sum.elim_inl] at hfb
    have hq : ¬ nI q = -4 := nI_ne4 (scan_rng hN 60 0 q (Or.inl rfl) hs)
    refine ⟨X.2.1, ?_⟩
    rw [x_mtn_no w X hd h2 h3 (nI q) hq hfb]
    simp only [xnow_self, xself]
  | inr M =>
    rw [mtn1_good (by rw [hsz]; exact hs)]
    rw [hs, Sum.elim_inr] at hfb
    obtain ⟨g1, g2, g3, g4, g5⟩ := scan_good hN 60 0 M rfl hs
    rw [x_mtn_go w X hd h2 h3 hfb]
    exact x_run0 w X hd hν hN he g2 g3 (text_lt hN he g5) hW hC
theorem x_mountain (w : aW) {X : aX} (hW : WF X.1) (hC : CA X.1) (hS : ∀ d, d < 8 → WFs (X.2.2.2.2.1 d)) (x : Int32) : ∃ μ, f_X3_mountain 0 x (putX w X) = some ((mtnK x X.1 X.2.2.2.2.1).1, putX w (xmind (xnow X (mtnK x X.1 X.2.2.2.2.1).2) μ)) := by
  unfold mtnK
  by_cases h1 : inR x 0 7 = true
  · obtain ⟨d, hd, rfl⟩ := in7 h1
    rw [if_pos h1, ix7 hd]
    by_cases h2 : (X.2.2.2.2.1 d).1 0 = 0
    · refine ⟨X.2.1, ?_⟩
      rw [if_pos h2]
      unfold f_X3_mountain
      simp only [h2, gR_X0, gR_X1, gR_X2, gI_X3, gR_X4, gR_X5, gR_X6, cV_X, x_think, xmind_1, xmind_0, xmind_2, xnow_0, xnow_1, xnow_2, bk_some, bind_some', zb_0, zb_1, zb_or, cc_or, x_shelfAt w X hd, oc_some, S_gI0 w X hd, xnow_self, xself, if_true, if_false, not_true_eq_false, not_false_eq_true, Bool.false_eq_true, Bool.true_eq_false, reduceIte, ite_true, ite_false]
    · rw [if_neg h2]
      by_cases h3 : (decide ((X.2.2.2.2.1 d).1 0 = 2) && decide ((X.2.2.2.2.1 d).1 3 = 0)) = true
      · rw [if_pos h3]
        exact x_mtn1 w hW hC hd (hS d hd) h2 h3
      · refine ⟨X.2.1, ?_⟩
        rw [if_neg h3]
        have h3 := Bool.eq_false_iff.mpr h3
        unfold f_X3_mountain
        simp only [h2, h3, gR_X0, gR_X1, gR_X2, gI_X3, gR_X4, gR_X5, gR_X6, cV_X, x_think, xmind_1, xmind_0, xmind_2, xnow_0, xnow_1, xnow_2, bk_some, bind_some', zb_0, zb_1, zb_or, cc_or, x_shelfAt w X hd, oc_some, S_gI0 w X hd, S_cV w X hd, S_holdsBytes w X hd, xnow_self, xself, if_true, if_false, not_true_eq_false, not_false_eq_true, Bool.false_eq_true, Bool.true_eq_false, reduceIte, ite_true, ite_false]
  · refine ⟨X.2.1, ?_⟩
    rw [if_neg h1]
    have h1 := Bool.eq_false_iff.mpr h1
    unfold f_X3_mountain
    simp only [gR_X0, gR_X1, gR_X2, gI_X3, gR_X4, gR_X5, gR_X6, cV_X, x_think, xmind_1, xmind_0, xmind_2, xnow_0, xnow_1, xnow_2, bk_some, bind_some', zb_0, zb_1, zb_or, cc_or, x_shelfNo w X h1, oc_none, xnow_self, xself, if_true, if_false, not_true_eq_false, not_false_eq_true, Bool.false_eq_true, Bool.true_eq_false, reduceIte, ite_true, ite_false]
theorem mtn_good {κ : aK} (hW : WF κ) (hC : CA κ) (x : Int32) (σ : Nat → aS) : WF (mtnK x κ σ).2 ∧ CA (mtnK x κ σ).2 := by
  unfold mtnK
  split
  · split
    · exact ⟨hW, hC⟩
    · split
      · cases hs : scanK (σ (ix x)) (szN (σ (ix x))) 60 0 with
        | inl q => rw [mtn1_bad hs]; exact ⟨hW, hC⟩
        | inr M =>
          rw [mtn1_good hs]
          cases hr : runK (σ (ix x)) M 0 κ with
          | inl j => rw [mtn2_bad hr]; exact ⟨hW, hC⟩
          | inr κ' => rw [mtn2_good hr]; exact run_good _ _ hW hC hr
      · exact ⟨hW, hC⟩
  · exact ⟨hW, hC⟩
