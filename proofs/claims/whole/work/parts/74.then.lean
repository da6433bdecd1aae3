/-! PURE: the first to die -/
def o4 (o : Option Nat) : Int32 := o.elim (-4) (fun i => nI i)
def goneB (A : Nat → Bool) (κ : aK) (i : Nat) : Bool := A i && deadP i κ
def firstD (A : Nat → Bool) : Nat → aK → Option Nat
  | 0, _ => none
  | m + 1, κ => (fndK (goneB A (passK 0 κ)) 0 9).elim (firstD A m (passK 0 κ)) some
def aliveB (κ : aK) (i : Nat) : Bool := bitB (κ.2.1 1) (nI i)
theorem bit_gone (κ κ' : aK) {i : Nat} (hi : i < 9) : bitB (κ.2.1 1 &&& (κ'.2.1 1 ^^^ (-1))) (nI i) = goneB (aliveB κ) κ' i := by
  rw [bit_and _ _ (by omega), bit_not _ (by omega)]
  rfl
theorem first_in (k6 : Int32 → aW → Option (Int32 × aW)) (b1 b2 : Int32) (w : aW) (Q : Nat → Bool) (hQ : ∀ i, i < 9 → bitB b2 (nI i) = Q i) :
    ∀ (m i n : Nat), i + m = 9 → m < n → loop4 (c_X3_firstToDie_40 0 k6) n b1 b2 (nI i) w = (fndK Q i m).elim (k6 (b1 + 1) w) (fun j => some (nI j, w))
  | 0, i, n + 1, hm, _ => by
    have : i = 9 := by omega
    subst this
    show c_X3_firstToDie_40 0 k6 (loop4 (c_X3_firstToDie_40 0 k6) n) b1 b2 (nI 9) w = k6 (b1 + 1) w
    simp only [c_X3_firstToDie_40]
    rfl
  | m + 1, i, n + 1, hm, hn => by
    show c_X3_firstToDie_40 0 k6 (loop4 (c_X3_firstToDie_40 0 k6) n) b1 b2 (nI i) w = _
    simp only [c_X3_firstToDie_40, le_9 (show i < 9 by omega), p_has, hQ i (by omega), bk_some, zb_0, nI_1, if_true, if_false, not_true_eq_false, not_false_eq_true, Bool.false_eq_true, Bool.true_eq_false, reduceIte, ite_true, ite_false, fnd_s]
    cases h : Q i
    · simp only [if_true, if_false, not_true_eq_false, not_false_eq_true, Bool.false_eq_true, Bool.true_eq_false, reduceIte, ite_true, ite_false]
      exact first_in k6 b1 b2 w Q hQ m (i + 1) n (by omega) (by omega)
    · rfl
theorem ge_60 : (60 : Int32) ≤ nI 60 := by decide
theorem lt_60 {d : Nat} (h : d < 60) : ¬ (60 : Int32) ≤ nI d := nI_ge h (by decide)
theorem x_first (w : aW) (X : aX) : ∀ (m d : Nat) (κ : aK) (n : Nat), d + m = 60 → m < n → WF κ → ∃ μ, loop2 (c_X3_firstToDie_6 0) n (nI d) (putX w (xmind X κ)) = some (o4 (firstD (aliveB X.1) m κ), putX w (xmind X μ))
  | 0, d, κ, n + 1, hm, _, _ => by
    have : d = 60 := by omega
    subst this
    refine ⟨κ, ?_⟩
    show c_X3_firstToDie_6 0 (loop2 (c_X3_firstToDie_6 0) n) (nI 60) (putX w (xmind X κ)) = _
    simp only [c_X3_firstToDie_6, ge_60, if_true, if_false, not_true_eq_false, not_false_eq_true, Bool.false_eq_true, Bool.true_eq_false, reduceIte, ite_true, ite_false]
    rfl
  | m + 1, d, κ, n + 1, hm, hn, hW => by
    have hW' : WF (passK 0 κ) := pass_WF hW (m := 0) (by decide)
    show ∃ μ, c_X3_firstToDie_6 0 (loop2 (c_X3_firstToDie_6 0) n) (nI d) (putX w (xmind X κ)) = _
    have e : c_X3_firstToDie_6 0 (loop2 (c_X3_firstToDie_6 0) n) (nI d) (putX w (xmind X κ)) = (fndK (goneB (aliveB X.1) (passK 0 κ)) 0 9).elim (loop2 (c_X3_firstToDie_6 0) n (nI d + 1) (putX w (xmind X (passK 0 κ)))) (fun j => some (nI j, putX w (xmind X (passK 0 κ)))) := by
      simp only [c_X3_firstToDie_6, lt_60 (show d < 60 by omega), gR_X0, gR_X1, gR_X2, gI_X3, gR_X4, gR_X5, gR_X6, cV_X, x_think, xmind_1, xmind_0, xmind_2, xnow_0, xnow_1, xnow_2, bk_some, bind_some', zb_0, zb_1, zb_or, cc_or, N_cV, N_gI0, N_gI1, N_gI2, N_gI3, N_gR4, N_gR5, N_gR6, N_gR7, N_gR8, N_gR9, N_gR10, N_gR11, N_gR12, N_hasBeast, N_isAlive, N_calledBy, N_calledByAnybody, N_needTogether, N_workTogether, N_freeOnes, T_cV, T_gI0, T_gI1, T_gI2, T_gI3, T_gR4, T_gR5, T_gR6, T_gR7, T_gR8, T_gR9, T_gR10, T_gR11, T_gR12, T_hasBeast, T_isAlive, T_calledBy, T_calledByAnybody, T_needTogether, T_workTogether, T_freeOnes, T_passDay w (X := xmind X κ) hW, if_true, if_false, not_true_eq_false, not_false_eq_true, Bool.false_eq_true, Bool.true_eq_false, reduceIte, ite_true, ite_false]
      exact first_in _ _ _ _ _ (fun i hi => bit_gone X.1 (passK 0 κ) hi) 9 0 a_fuel rfl (by decide)
    rw [e]
    unfold firstD
    cases h : fndK (goneB (aliveB X.1) (passK 0 κ)) 0 9 with
    | none =>
      obtain ⟨μ, hμ⟩ := x_first w X m (d + 1) (passK 0 κ) n (by omega) (by omega) hW'
      exact ⟨μ, by rw [nI_1]; exact hμ⟩
    | some j => exact ⟨passK 0 κ, rfl⟩
theorem x_dies0 (w : aW) {X : aX} (hW : WF X.1) : ∃ μ, f_X3_dies 0 (-1) (putX w X) = some (o4 (firstD (aliveB X.1) 60 X.1), putX w (xmind X μ)) := by
  obtain ⟨μ, hμ⟩ := x_first w X 60 0 X.1 a_fuel rfl (by decide) hW
  refine ⟨μ, ?_⟩
  unfold f_X3_dies f_X3_firstToDie
  simp only [gR_X0, gR_X1, gR_X2, gI_X3, gR_X4, gR_X5, gR_X6, cV_X, x_think, xmind_1, xmind_0, xmind_2, xnow_0, xnow_1, xnow_2, bk_some, bind_some', zb_0, zb_1, zb_or, cc_or, if_true, if_false, not_true_eq_false, not_false_eq_true, Bool.false_eq_true, Bool.true_eq_false, reduceIte, ite_true, ite_false]
  rw [show (0 : Int32) = nI 0 from rfl, hμ]
  rfl
def minF (A : Nat → Bool) (t : Nat → Nat) (i : Nat) (s : Option Nat × Nat) : Option Nat × Nat := if A i = true then (if t i < s.2 then (some i, t i) else s) else s
def tN (P : aK → Bool) (m d : Nat) (κ : aK) : Nat := (fstD P m d κ).elim 61 (fun r => r.1)
theorem tN_yes {P : aK → Bool} {m d : Nat} {κ : aK} (h : P κ = true) : tN P (m + 1) d κ = d := by
  unfold tN fstD; rw [if_pos h]; rfl
theorem tN_no {P : aK → Bool} {m d : Nat} {κ : aK} (h : P κ = false) : tN P (m + 1) d κ = tN P m (d + 1) (passK 0 κ) := by
  unfold tN; rw [fstD, if_neg (by rw [h]; decide)]
theorem tN_0 (P : aK → Bool) (d : Nat) (κ : aK) : tN P 0 d κ = 61 := rfl
theorem tN_ge (P : aK → Bool) {m d : Nat} (κ : aK) (h : d + m = 61) : d ≤ tN P m d κ ∧ tN P m d κ ≤ 61 := by
  unfold tN
  cases e : fstD P m d κ with
  | none => exact ⟨by show d ≤ 61; omega, Nat.le_refl _⟩
  | some r =>
    have := fst_rng m d κ r e
    exact ⟨this.1, by show r.1 ≤ 61; omega⟩
theorem min_cong {A : Nat → Bool} {t t' : Nat → Nat} (h : ∀ i, i < 9 → A i = true → t i = t' i) (s : Option Nat × Nat) : itr (minF A t) 0 9 s = itr (minF A t') 0 9 s :=
  itr_cong 9 0 s (fun i s _ hi => by
    unfold minF
    by_cases hA : A i = true
    · rw [if_pos hA, if_pos hA, h i (by omega) hA]
    · rw [if_neg hA, if_neg hA])
theorem min_none {A : Nat → Bool} {t : Nat → Nat} (h : ∀ i, i < 9 → A i = true → t i = 61) : itr (minF A t) 0 9 (none, 61) = (none, 61) :=
  itr_same 9 0 (none, 61) (fun i _ hi => by
    unfold minF
    by_cases hA : A i = true
    · rw [if_pos hA, if_neg (by rw [h i (by omega) hA]; exact Nat.lt_irrefl _)]
    · rw [if_neg hA])
theorem min_first {A : Nat → Bool} {t : Nat → Nat} {j T : Nat} (hj : j < 9) (hA : A j = true) (ht : t j = T) (hT : T < 61) (h1 : ∀ i, i < 9 → A i = true → T ≤ t i) (h2 : ∀ i, i < j → A i = true → T < t i) : (itr (minF A t) 0 9 (none, 61)).1 = some j := by
  have a1 : T < (itr (minF A t) 0 j (none, 61)).2 := itr_inv (I := fun s : Option Nat × Nat => T < s.2) j 0 (none, 61) hT (fun i s _ hi hs => by
    unfold minF
    by_cases hA' : A i = true
    · rw [if_pos hA']
      by_cases hl : t i < s.2
      · rw [if_pos hl]; exact h2 i (by omega) hA'
      · rw [if_neg hl]; exact hs
    · rw [if_neg hA']; exact hs)
  have e : 9 = j + (1 + (8 - j)) := by omega
  rw [e, itr_add, itr_add]
  have a2 : itr (minF A t) (0 + j) 1 (itr (minF A t) 0 j (none, 61)) = (some j, T) := by
    show minF A t (0 + j) _ = _
    rw [Nat.zero_add]
    unfold minF
    rw [if_pos hA, if_pos (by rw [ht]; exact a1), ht]
  rw [a2]
  have a3 : itr (minF A t) (0 + j + 1) (8 - j) (some j, T) = (some j, T) := itr_same (8 - j) (0 + j + 1) (some j, T) (fun i hi1 hi2 => by
    unfold minF
    by_cases hA' : A i = true
    · rw [if_pos hA', if_neg (by have := h1 i (by omega) hA'; show ¬ t i < T; omega)]
    · rw [if_neg hA'])
  rw [a3]
theorem fnd_before {Q : Nat → Bool} : ∀ {m a j : Nat}, fndK Q a m = some j → ∀ i, a ≤ i → i < j → Q i = false
  | 0, _, _, h => by cases h
  | m + 1, a, j, h => by
    intro i h1 h2
    rw [fnd_s] at h
    by_cases hQ : Q a = true
    · rw [if_pos hQ] at h; cases h; omega
    · rw [if_neg hQ] at h
      by_cases hi : i = a
      · rw [hi]; exact Bool.eq_false_iff.mpr hQ
      · exact fnd_before h i (by omega) h2
theorem fnd_none {Q : Nat → Bool} : ∀ {m a : Nat}, fndK Q a m = none → ∀ i, a ≤ i → i < a + m → Q i = false
  | 0, _, _ => by intro i h1 h2; omega
  | m + 1, a, h => by
    intro i h1 h2
    rw [fnd_s] at h
    by_cases hQ : Q a = true
    · rw [if_pos hQ] at h; cases h
    · rw [if_neg hQ] at h
      by_cases hi : i = a
      · rw [hi]; exact Bool.eq_false_iff.mpr hQ
      · exact fnd_none h i (by omega) (by omega)
theorem first_min (A : Nat → Bool) : ∀ (m d : Nat) (κ : aK), d + m = 60 → (∀ i, i < 9 → A i = true → deadP i κ = false) → (itr (minF A (fun i => tN (deadP i) (m + 1) d κ)) 0 9 (none, 61)).1 = firstD A m κ
  | 0, d, κ, hm, h => by
    rw [min_none (fun i hi hA => by rw [tN_no (h i hi hA), tN_0])]
    rfl
  | m + 1, d, κ, hm, h => by
    have e : ∀ i, i < 9 → A i = true → tN (deadP i) (m + 1 + 1) d κ = tN (deadP i) (m + 1) (d + 1) (passK 0 κ) := fun i hi hA => tN_no (h i hi hA)
    rw [min_cong (t' := fun i => tN (deadP i) (m + 1) (d + 1) (passK 0 κ)) e]
    unfold firstD
    cases hf : fndK (goneB A (passK 0 κ)) 0 9 with
    | none =>
      refine first_min A m (d + 1) (passK 0 κ) (by omega) (fun i hi hA => ?_)
      have := fnd_none hf i (by omega) (by omega)
      unfold goneB at this
      rw [hA, Bool.true_and] at this
      exact this
    | some j =>
      have hj := fnd_lt hf
      have hq := hj.2.2
      unfold goneB at hq
      rw [Bool.and_eq_true] at hq
      refine min_first (T := d + 1) (by omega) hq.1 (tN_yes hq.2) (by omega) (fun i hi hA => (tN_ge _ _ (by omega)).1) (fun i hi hA => ?_)
      have hn := fnd_before hf i (by omega) hi
      unfold goneB at hn
      rw [hA, Bool.true_and] at hn
      rw [show tN (deadP i) (m + 1) (d + 1) (passK 0 κ) = _ from tN_no hn]
      exact Nat.lt_of_lt_of_le (Nat.lt_succ_self _) (tN_ge _ _ (by omega)).1
