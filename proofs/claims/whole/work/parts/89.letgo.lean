/-! PURE: the fewest of a set: letGo and cover, at both sides -/
def subB (a i : Nat) : Bool := decide (nI i &&& (nI a ^^^ (-1)) = 0)
def fewB (i : Nat) (o : Option Nat) : Bool := o.elim true (fun z => !decide (popI (nI z) ≤ popI (nI i)))
def pickF (Q : Nat → Bool) (a i : Nat) (o : Option Nat) : Option Nat := if subB a i = true then (if fewB i o = true then (if Q i = true then some i else o) else o) else o
def fewO (o : Option Nat) : Int32 := o.elim 10 (fun z => popI (nI z))
theorem few_le {i : Nat} (hi : i < 512) (o : Option Nat) : (fewO o ≤ popI (nI i)) = (fewB i o = false) := by
  cases o with
  | none =>
    obtain ⟨h1, h2⟩ := pop_rng i hi
    refine propext ⟨fun h => ?_, fun h => by cases h⟩
    have h' : nI 10 ≤ popI (nI i) := h
    rw [h1, le_nI (by decide) (by omega)] at h'
    omega
  | some z =>
    show (popI (nI z) ≤ popI (nI i)) = ((!decide (popI (nI z) ≤ popI (nI i))) = false)
    by_cases h : popI (nI z) ≤ popI (nI i) <;> simp [h]
theorem gt_nI {a : Nat} (ha : a < 512) : nI a < nI (a + 1) := (nI_ltI (by omega) (by omega)).mpr (by omega)
theorem ngt_nI {a i : Nat} (ha : a < 512) (hi : i ≤ a) : ¬ nI a < nI i := fun z => by
  have := (nI_ltI (a := a) (b := i) (by omega) (by omega)).mp z
  omega
theorem ft : (false = true) = False := by simp
theorem T_giveAll (w : aW) (X : aX) (m x : Int32) : f_X0_giveAll 11 m x (putX w X) = some ((), putX w (xmind X (itr (giveF (fun i => bitB m (nI i)) x) 0 9 X.2.1))) := by
  rw [X_mind w X, p_giveAll d20, X_mind']
theorem free_WF {P : Nat → Bool} {κ : aK} (hW : WF κ) : WF (itr (giveF P (-4)) 0 9 κ) := itr_inv 9 0 κ hW (fun i κ' _ _ h => by
  unfold giveF
  split
  · exact h.caller (Or.inl rfl)
  · exact h)
theorem give_21 (P : Nat → Bool) (x : Int32) : ∀ (n a : Nat) (κ : aK), (itr (giveF P x) a n κ).2.1 = κ.2.1
  | 0, _, _ => rfl
  | n + 1, a, κ => by
    show (itr (giveF P x) (a + 1) n (giveF P x a κ)).2.1 = _
    rw [give_21 P x n]
    unfold giveF
    split <;> rfl
theorem give_oth (P : Nat → Bool) (x : Int32) {k : Nat} (hk : k ≠ 4) : ∀ (n a : Nat) (κ : aK), (itr (giveF P x) a n κ).2.2 k = κ.2.2 k
  | 0, _, _ => rfl
  | n + 1, a, κ => by
    show (itr (giveF P x) (a + 1) n (giveF P x a κ)).2.2 k = _
    rw [give_oth P x hk n]
    unfold giveF
    split
    · show (if k = 4 then _ else κ.2.2 k) = _
      rw [if_neg hk]
    · rfl
theorem give_get (P : Nat → Bool) (x : Int32) : ∀ (n a : Nat) (κ : aK) (i : Nat), (itr (giveF P x) a n κ).2.2 4 i = if a ≤ i ∧ i < a + n ∧ P i = true then x else κ.2.2 4 i
  | 0, a, κ, i => by
    rw [if_neg (by omega)]
    rfl
  | n + 1, a, κ, i => by
    show (itr (giveF P x) (a + 1) n (giveF P x a κ)).2.2 4 i = _
    rw [give_get P x n]
    have e : (giveF P x a κ).2.2 4 i = if i = a ∧ P a = true then x else κ.2.2 4 i := by
      unfold giveF
      by_cases hP : P a = true
      · rw [if_pos hP]
        show (if 4 = 4 then upd (κ.2.2 4) a x else κ.2.2 4) i = _
        rw [if_pos rfl]
        unfold upd
        by_cases h : i = a
        · rw [if_pos h, if_pos ⟨h, hP⟩]
        · rw [if_neg h, if_neg (fun z => h z.1)]
      · rw [if_neg hP, if_neg (fun z => hP z.2)]
    rw [e]
    by_cases h : i = a
    · subst h
      by_cases hP : P i = true
      · rw [if_neg (by omega), if_pos ⟨rfl, hP⟩, if_pos ⟨by omega, by omega, hP⟩]
      · rw [if_neg (by omega), if_neg (fun z => hP z.2), if_neg (fun z => hP z.2.2)]
    · rw [if_neg (c := i = a ∧ P a = true) (fun z => h z.1)]
      by_cases hc : a + 1 ≤ i ∧ i < a + 1 + n ∧ P i = true
      · rw [if_pos hc, if_pos ⟨by omega, by omega, hc.2.2⟩]
      · rw [if_neg hc, if_neg (fun z => hc ⟨by omega, by omega, z.2.2⟩)]
theorem m_callAll (w : aW) (Y : aY) {κ : aK} (hk : κ.1 ≤ 9) (s x : Int32) (hs : ∀ i, κ.1 ≤ i → i < 9 → bitB s (nI i) = false) : f_X4_callAll 50 s x (putY w κ Y) = some ((), putY w (itr (giveF (fun i => bitB s (nI i)) x) 0 9 κ) Y) := by
  rw [itr_many hk κ (fun i h1 h2 => by unfold giveF; exact if_neg (fun z => by have z : bitB s (nI i) = true := z; rw [hs i h1 h2] at z; cases z))]
  unfold f_X4_callAll
  refine for2 (fun κ' => putY w κ' Y) (c_X4_callAll_2 50 s x) κ.1 (giveF (fun i => bitB s (nI i)) x) (fun κ' => some ((), putY w κ' Y)) (fun _ κ' => κ'.1 = κ.1) ?_ ?_ ?_ κ.1 0 κ a_fuel (by omega) (show κ.1 < 1000 by omega) rfl
  · intro k i κ' hi hκ
    have hi' : i < κ'.1 := by omega
    have hk' : κ'.1 ≤ 9 := by omega
    by_cases h : bitB s (nI i) = true
    · simp only [c_X4_callAll_2, lt_9I hi' hk', p_hasBit, h, gI_Y0, gR_Y1, gR_Y2, gR_Y3, gR_Y4, gR_Y5, gI_Y6, gR_Y7, gR_Y8, gR_Y9, gR_Y10, gI_Y11, gI_Y12, gR_Y13, gR_Y14, gR_Y15, gR_Y16, gR_Y17, gR_Y18, gI_Y19, gI_Y20, gI_Y21, gI_Y22, gI_Y23, gR_Y24, gR_Y25, gR_Y26, gR_Y27, gR_Y28, gI_Y29, gI_Y30, gI_Y31, gR_Y33, gR_Y34, gI_Y35, gR_Y36, cV_Y, bk_some, bind_some', zb_0, zb_1, zb_or, cc_or, kset_1, kset_21, kint_1, kint_21, kint_22, putY_moved, sA_Y55 w Y hk' hi', nI_1, if_true, if_false, not_true_eq_false, not_false_eq_true, Bool.false_eq_true, Bool.true_eq_false, reduceIte, ite_true, ite_false]
      unfold giveF
      rw [if_pos h]
    · simp only [c_X4_callAll_2, lt_9I hi' hk', p_hasBit, Bool.eq_false_iff.mpr h, gA_Y55 w Y hk' hi', gI_Y0, gR_Y1, gR_Y2, gR_Y3, gR_Y4, gR_Y5, gI_Y6, gR_Y7, gR_Y8, gR_Y9, gR_Y10, gI_Y11, gI_Y12, gR_Y13, gR_Y14, gR_Y15, gR_Y16, gR_Y17, gR_Y18, gI_Y19, gI_Y20, gI_Y21, gI_Y22, gI_Y23, gR_Y24, gR_Y25, gR_Y26, gR_Y27, gR_Y28, gI_Y29, gI_Y30, gI_Y31, gR_Y33, gR_Y34, gI_Y35, gR_Y36, cV_Y, bk_some, bind_some', zb_0, zb_1, zb_or, cc_or, kset_1, kset_21, kint_1, kint_21, kint_22, putY_moved, sA_Y55 w Y hk' hi', kset_self, nI_1, if_true, if_false, not_true_eq_false, not_false_eq_true, Bool.false_eq_true, Bool.true_eq_false, reduceIte, ite_true, ite_false]
      unfold giveF
      rw [if_neg h]
  · intro i κ' _ h
    exact (give_1 _ _ _ _).trans h
  · intro k κ' h
    simp only [c_X4_callAll_2, gI_Y0, gR_Y1, gR_Y2, gR_Y3, gR_Y4, gR_Y5, gI_Y6, gR_Y7, gR_Y8, gR_Y9, gR_Y10, gI_Y11, gI_Y12, gR_Y13, gR_Y14, gR_Y15, gR_Y16, gR_Y17, gR_Y18, gI_Y19, gI_Y20, gI_Y21, gI_Y22, gI_Y23, gR_Y24, gR_Y25, gR_Y26, gR_Y27, gR_Y28, gI_Y29, gI_Y30, gI_Y31, gR_Y33, gR_Y34, gI_Y35, gR_Y36, cV_Y, bk_some, bind_some', zb_0, zb_1, zb_or, cc_or, kset_1, kset_21, kint_1, kint_21, kint_22, putY_moved, h, Int32.le_refl, if_true, if_false, not_true_eq_false, not_false_eq_true, Bool.false_eq_true, Bool.true_eq_false, reduceIte, ite_true, ite_false]
theorem sub_bits {a i : Nat} (ha : a < 512) (h : subB a i = true) {z : Nat} (hz : z < 9) (hb : bitB (nI i) (nI z) = true) : bitB (nI a) (nI z) = true := by
  have e := bit_and (nI i) (nI a ^^^ (-1)) (i := z) (by omega)
  rw [of_decide_eq_true h, bit_0 (by omega), hb, bit_not _ (by omega), Bool.true_and] at e
  cases hc : bitB (nI a) (nI z)
  · rw [hc] at e; exact absurd e (by decide)
  · rfl
theorem bit_orr (x y : Int32) {i : Nat} (hi : i < 32) : bitB (x ||| y) (nI i) = (bitB x (nI i) || bitB y (nI i)) := by
  rw [bit_bt _ hi, bit_bt _ hi, bit_bt _ hi, b_or]
theorem or_lt' {a b : Nat} (ha : a < 512) (hb : b < 512) : ∃ c, c < 512 ∧ nI a ||| nI b = nI c := b_lt (fun z h9 h32 => by
  rw [b_or, b_nI ha h9, b_nI hb h9]; rfl)
theorem give_CA4 {κ : aK} (P : Nat → Bool) : ∀ z, (itr (giveF P (-4)) 0 9 κ).2.1 z = κ.2.1 z := fun z => by rw [give_21]
theorem allB_21 {κ κ' : aK} (h : κ'.2.1 = κ.2.1) (m : Int32) : allB m κ' = allB m κ := by unfold allB; rw [h]
theorem and_sub {a i : Nat} (ha : a < 512) {κ : aK} (h : allB (nI a) κ = true) : allB (nI a &&& (nI i ^^^ (-1))) κ = true := by
  obtain ⟨b, hb, hB⟩ := and_lt ha (nI i ^^^ (-1))
  rw [hB, all_bits hb]
  rw [all_bits ha] at h
  intro z hz hm
  rw [← hB, bit_and _ _ (by omega), Bool.and_eq_true] at hm
  exact h z hz hm.1
theorem letGoX (w : aW) (X : aX) (a1 a2 : Int32) {a : Nat} (ha : a < 512) (Q : Nat → Bool) (bst : Option Nat → Int32) (hb : ∀ i, bst (some i) = nI i)
    (hv : ∀ i μ, i ≤ a → subB a i = true → ∃ μ', f_X3_savesTheRest 0 (nI a) (nI i) a2 (putX w (xmind X μ)) = some (zb (Q i), putX w (xmind X μ'))) :
    ∀ (m i : Nat) (o : Option Nat) (μ : aK) (n : Nat), i + m = a + 1 → m < n → ∃ μ', loop5 (c_X3_letGo_38 0 a1 a2) n (nI a) (bst o) (fewO o) (nI i) (putX w (xmind X μ)) = some (bst (itr (pickF Q a) i m o), putX w (xmind X μ'))
  | 0, i, o, μ, n + 1, hm, _ => by
    have : i = a + 1 := by omega
    subst this
    refine ⟨μ, ?_⟩
    rw [loop5_s]
    simp only [c_X3_letGo_38, gt_nI ha, if_true, if_false, not_true_eq_false, not_false_eq_true, Bool.false_eq_true, Bool.true_eq_false, reduceIte, ite_true, ite_false]
    rfl
  | m + 1, i, o, μ, n + 1, hm, hn => by
    rw [loop5_s]
    have hle := ngt_nI ha (show i ≤ a by omega)
    show ∃ μ', _ = some (bst (itr (pickF Q a) (i + 1) m (pickF Q a i o)), _)
    by_cases hs : subB a i = true
    · have hs' : nI i &&& (nI a ^^^ (-1)) = 0 := of_decide_eq_true hs
      by_cases hf : fewB i o = true
      · have hf' : ¬ fewO o ≤ popI (nI i) := by rw [few_le (by omega), hf]; decide
        obtain ⟨μ1, h1⟩ := hv i μ (by omega) hs
        by_cases hQ : Q i = true
        · obtain ⟨μ', h'⟩ := letGoX w X a1 a2 ha Q bst hb hv m (i + 1) (some i) μ1 n (by omega) (by omega)
          refine ⟨μ', ?_⟩
          rw [show pickF Q a i o = some i by unfold pickF; rw [if_pos hs, if_pos hf, if_pos hQ]]
          simp only [c_X3_letGo_38, hle, hs', p_bitCount, hf', gR_X0, gR_X1, gR_X2, gI_X3, gR_X4, gR_X5, gR_X6, cV_X, x_think, xmind_1, xmind_0, xmind_2, xnow_0, xnow_1, xnow_2, bk_some, bind_some', zb_0, zb_1, zb_or, cc_or, h1, hQ, nI_1, if_true, if_false, not_true_eq_false, not_false_eq_true, Bool.false_eq_true, Bool.true_eq_false, reduceIte, ite_true, ite_false]
          rw [hb] at h'
          exact h'
        · obtain ⟨μ', h'⟩ := letGoX w X a1 a2 ha Q bst hb hv m (i + 1) o μ1 n (by omega) (by omega)
          refine ⟨μ', ?_⟩
          rw [show pickF Q a i o = o by unfold pickF; rw [if_pos hs, if_pos hf, if_neg hQ]]
          simp only [c_X3_letGo_38, hle, hs', p_bitCount, hf', gR_X0, gR_X1, gR_X2, gI_X3, gR_X4, gR_X5, gR_X6, cV_X, x_think, xmind_1, xmind_0, xmind_2, xnow_0, xnow_1, xnow_2, bk_some, bind_some', zb_0, zb_1, zb_or, cc_or, h1, Bool.eq_false_iff.mpr hQ, nI_1, if_true, if_false, not_true_eq_false, not_false_eq_true, Bool.false_eq_true, Bool.true_eq_false, reduceIte, ite_true, ite_false]
          exact h'
      · have hf' : fewO o ≤ popI (nI i) := by rw [few_le (by omega)]; exact Bool.eq_false_iff.mpr hf
        obtain ⟨μ', h'⟩ := letGoX w X a1 a2 ha Q bst hb hv m (i + 1) o μ n (by omega) (by omega)
        refine ⟨μ', ?_⟩
        rw [show pickF Q a i o = o by unfold pickF; rw [if_pos hs, if_neg hf]]
        simp only [c_X3_letGo_38, hle, hs', p_bitCount, hf', gR_X0, gR_X1, gR_X2, gI_X3, gR_X4, gR_X5, gR_X6, cV_X, x_think, xmind_1, xmind_0, xmind_2, xnow_0, xnow_1, xnow_2, bk_some, bind_some', zb_0, zb_1, zb_or, cc_or, nI_1, if_true, if_false, not_true_eq_false, not_false_eq_true, Bool.false_eq_true, Bool.true_eq_false, reduceIte, ite_true, ite_false]
        exact h'
    · have hs' : ¬ nI i &&& (nI a ^^^ (-1)) = 0 := fun z => hs (decide_eq_true z)
      obtain ⟨μ', h'⟩ := letGoX w X a1 a2 ha Q bst hb hv m (i + 1) o μ n (by omega) (by omega)
      refine ⟨μ', ?_⟩
      rw [show pickF Q a i o = o by unfold pickF; rw [if_neg hs]]
      simp only [c_X3_letGo_38, hle, hs', nI_1, if_true, if_false, not_true_eq_false, not_false_eq_true, Bool.false_eq_true, Bool.true_eq_false, reduceIte, ite_true, ite_false]
      exact h'
theorem letGoY (w : aW) {κ : aK} (a1 a2 : Int32) {a : Nat} (ha : a < 512) (Q : Nat → Bool)
    (hv : ∀ i Y, i ≤ a → subB a i = true → Y.1 0 = 0 → Kept Y 8 κ → ∃ Y', Yk Y Y' ∧ Kept Y' 8 κ ∧ ∀ k b3, c_X4_letGo_76 50 a1 a2 k b3 (nI a) (nI i) (putY w κ Y) = k (if Q i = true then nI i else b3) (nI a) (nI (i + 1)) (putY w κ Y')) :
    ∀ (m i : Nat) (o : Option Nat) (Y : aY) (n : Nat), i + m = a + 1 → m < n → (∀ z, o = some z → z < 512) → Y.1 0 = 0 → Kept Y 8 κ → ∃ Y', Yk Y Y' ∧ loop4 (c_X4_letGo_43 50 a1 a2) n (o4 o) (nI a) (nI i) (putY w κ Y) = some (o4 (itr (pickF Q a) i m o), putY w κ Y')
  | 0, i, o, Y, n + 1, hm, _, _, _, _ => by
    have : i = a + 1 := by omega
    subst this
    refine ⟨Y, Yk.refl Y, ?_⟩
    rw [loop4_s]
    simp only [c_X4_letGo_43, gt_nI ha, if_true, if_false, not_true_eq_false, not_false_eq_true, Bool.false_eq_true, Bool.true_eq_false, reduceIte, ite_true, ite_false]
    rfl
  | m + 1, i, o, Y, n + 1, hm, hn, ho, h0, hK => by
    rw [loop4_s]
    have hle := ngt_nI ha (show i ≤ a by omega)
    show ∃ Y', Yk Y Y' ∧ _ = some (o4 (itr (pickF Q a) (i + 1) m (pickF Q a i o)), _)
    by_cases hs : subB a i = true
    · have hs' : nI i &&& (nI a ^^^ (-1)) = 0 := of_decide_eq_true hs
      have step : fewB i o = true → ∀ w1, (∀ k, c_X4_letGo_43 50 a1 a2 k (o4 o) (nI a) (nI i) w1 = c_X4_letGo_76 50 a1 a2 k (o4 o) (nI a) (nI i) w1) → w1 = putY w κ Y → ∃ Y', Yk Y Y' ∧ c_X4_letGo_43 50 a1 a2 (loop4 (c_X4_letGo_43 50 a1 a2) n) (o4 o) (nI a) (nI i) w1 = some (o4 (itr (pickF Q a) (i + 1) m (pickF Q a i o)), putY w κ Y') := by
        intro hf w1 hk hw1
        subst hw1
        obtain ⟨Y1, e1, hK1, h1⟩ := hv i Y (by omega) hs h0 hK
        by_cases hQ : Q i = true
        · obtain ⟨Y', e', h'⟩ := letGoY w a1 a2 ha Q hv m (i + 1) (some i) Y1 n (by omega) (by omega) (fun z h => by cases h; omega) (e1.1.1.trans h0) hK1
          refine ⟨Y', e1.trans e', ?_⟩
          rw [hk, h1, if_pos hQ, show pickF Q a i o = some i by unfold pickF; rw [if_pos hs, if_pos hf, if_pos hQ]]
          exact h'
        · obtain ⟨Y', e', h'⟩ := letGoY w a1 a2 ha Q hv m (i + 1) o Y1 n (by omega) (by omega) ho (e1.1.1.trans h0) hK1
          refine ⟨Y', e1.trans e', ?_⟩
          rw [hk, h1, if_neg hQ, show pickF Q a i o = o by unfold pickF; rw [if_pos hs, if_pos hf, if_neg hQ]]
          exact h'
      match o, ho, step with
      | none, ho, step =>
        exact step rfl _ (fun k => by simp only [c_X4_letGo_43, hle, hs', show o4 none < 0 from m4_lt, if_true, if_false, not_true_eq_false, not_false_eq_true, Bool.false_eq_true, Bool.true_eq_false, reduceIte, ite_true, ite_false]) rfl
      | some z, ho, step =>
        have hz := ho z rfl
        have hz0 : ¬ o4 (some z) < 0 := nI_nlt0 (by omega)
        by_cases hf : popI (nI z) ≤ popI (nI i)
        · obtain ⟨Y', e', h'⟩ := letGoY w a1 a2 ha Q hv m (i + 1) (some z) Y n (by omega) (by omega) ho h0 hK
          refine ⟨Y', e', ?_⟩
          have hfe : ¬ fewB i (some z) = true := by unfold fewB; simp [hf]
          rw [show pickF Q a i (some z) = some z by unfold pickF; rw [if_pos hs, if_neg hfe]]
          simp only [c_X4_letGo_43, hle, hs', hz0, m_onesOf (show i < 512 by omega), show o4 (some z) = nI z from rfl, m_onesOf hz, bk_some, hf, nI_1, if_true, if_false, not_true_eq_false, not_false_eq_true, Bool.false_eq_true, Bool.true_eq_false, reduceIte, ite_true, ite_false] at hz0 ⊢
          simp only [hz0, m_onesOf (show i < 512 by omega), m_onesOf hz, bk_some, hf, nI_1, if_true, if_false, not_true_eq_false, not_false_eq_true, Bool.false_eq_true, Bool.true_eq_false, reduceIte, ite_true, ite_false]
          exact h'
        · have hfe : fewB i (some z) = true := by unfold fewB; simp [hf]
          refine step hfe _ (fun k => ?_) rfl
          have hz1 : ¬ nI z < 0 := hz0
          simp only [c_X4_letGo_43, hle, hs', show o4 (some z) = nI z from rfl, hz1, m_onesOf (show i < 512 by omega), m_onesOf hz, bk_some, hf, if_true, if_false, not_true_eq_false, not_false_eq_true, Bool.false_eq_true, Bool.true_eq_false, reduceIte, ite_true, ite_false]
    · have hs' : ¬ nI i &&& (nI a ^^^ (-1)) = 0 := fun z => hs (decide_eq_true z)
      obtain ⟨Y', e', h'⟩ := letGoY w a1 a2 ha Q hv m (i + 1) o Y n (by omega) (by omega) ho h0 hK
      refine ⟨Y', e', ?_⟩
      rw [show pickF Q a i o = o by unfold pickF; rw [if_neg hs]]
      simp only [c_X4_letGo_43, hle, hs', nI_1, if_true, if_false, not_true_eq_false, not_false_eq_true, Bool.false_eq_true, Bool.true_eq_false, reduceIte, ite_true, ite_false]
      exact h'
theorem coverX (w : aW) (X : aX) (a1 a2 : Int32) {a : Nat} (ha : a < 512) (Q : Nat → Bool) (bst : Option Nat → Int32) (hb : ∀ i, bst (some i) = nI i)
    (hv : ∀ i μ, i ≤ a → subB a i = true → ∃ μ', f_X3_covers 0 a1 a2 (nI i) (putX w (xmind X μ)) = some (zb (Q i), putX w (xmind X μ'))) :
    ∀ (m i : Nat) (o : Option Nat) (μ : aK) (n : Nat), i + m = a + 1 → m < n → ∃ μ', loop5 (c_X3_cover_38 0 a1 a2) n (nI a) (bst o) (fewO o) (nI i) (putX w (xmind X μ)) = some (bst (itr (pickF Q a) i m o), putX w (xmind X μ'))
  | 0, i, o, μ, n + 1, hm, _ => by
    have : i = a + 1 := by omega
    subst this
    refine ⟨μ, ?_⟩
    rw [loop5_s]
    simp only [c_X3_cover_38, gt_nI ha, if_true, if_false, not_true_eq_false, not_false_eq_true, Bool.false_eq_true, Bool.true_eq_false, reduceIte, ite_true, ite_false]
    rfl
  | m + 1, i, o, μ, n + 1, hm, hn => by
    rw [loop5_s]
    have hle := ngt_nI ha (show i ≤ a by omega)
    show ∃ μ', _ = some (bst (itr (pickF Q a) (i + 1) m (pickF Q a i o)), _)
    by_cases hs : subB a i = true
    · have hs' : nI i &&& (nI a ^^^ (-1)) = 0 := of_decide_eq_true hs
      by_cases hf : fewB i o = true
      · have hf' : ¬ fewO o ≤ popI (nI i) := by rw [few_le (by omega), hf]; decide
        obtain ⟨μ1, h1⟩ := hv i μ (by omega) hs
        by_cases hQ : Q i = true
        · obtain ⟨μ', h'⟩ := coverX w X a1 a2 ha Q bst hb hv m (i + 1) (some i) μ1 n (by omega) (by omega)
          refine ⟨μ', ?_⟩
          rw [show pickF Q a i o = some i by unfold pickF; rw [if_pos hs, if_pos hf, if_pos hQ]]
          simp only [c_X3_cover_38, hle, hs', p_bitCount, hf', gR_X0, gR_X1, gR_X2, gI_X3, gR_X4, gR_X5, gR_X6, cV_X, x_think, xmind_1, xmind_0, xmind_2, xnow_0, xnow_1, xnow_2, bk_some, bind_some', zb_0, zb_1, zb_or, cc_or, h1, hQ, nI_1, if_true, if_false, not_true_eq_false, not_false_eq_true, Bool.false_eq_true, Bool.true_eq_false, reduceIte, ite_true, ite_false]
          rw [hb] at h'
          exact h'
        · obtain ⟨μ', h'⟩ := coverX w X a1 a2 ha Q bst hb hv m (i + 1) o μ1 n (by omega) (by omega)
          refine ⟨μ', ?_⟩
          rw [show pickF Q a i o = o by unfold pickF; rw [if_pos hs, if_pos hf, if_neg hQ]]
          simp only [c_X3_cover_38, hle, hs', p_bitCount, hf', gR_X0, gR_X1, gR_X2, gI_X3, gR_X4, gR_X5, gR_X6, cV_X, x_think, xmind_1, xmind_0, xmind_2, xnow_0, xnow_1, xnow_2, bk_some, bind_some', zb_0, zb_1, zb_or, cc_or, h1, Bool.eq_false_iff.mpr hQ, nI_1, if_true, if_false, not_true_eq_false, not_false_eq_true, Bool.false_eq_true, Bool.true_eq_false, reduceIte, ite_true, ite_false]
          exact h'
      · have hf' : fewO o ≤ popI (nI i) := by rw [few_le (by omega)]; exact Bool.eq_false_iff.mpr hf
        obtain ⟨μ', h'⟩ := coverX w X a1 a2 ha Q bst hb hv m (i + 1) o μ n (by omega) (by omega)
        refine ⟨μ', ?_⟩
        rw [show pickF Q a i o = o by unfold pickF; rw [if_pos hs, if_neg hf]]
        simp only [c_X3_cover_38, hle, hs', p_bitCount, hf', gR_X0, gR_X1, gR_X2, gI_X3, gR_X4, gR_X5, gR_X6, cV_X, x_think, xmind_1, xmind_0, xmind_2, xnow_0, xnow_1, xnow_2, bk_some, bind_some', zb_0, zb_1, zb_or, cc_or, nI_1, if_true, if_false, not_true_eq_false, not_false_eq_true, Bool.false_eq_true, Bool.true_eq_false, reduceIte, ite_true, ite_false]
        exact h'
    · have hs' : ¬ nI i &&& (nI a ^^^ (-1)) = 0 := fun z => hs (decide_eq_true z)
      obtain ⟨μ', h'⟩ := coverX w X a1 a2 ha Q bst hb hv m (i + 1) o μ n (by omega) (by omega)
      refine ⟨μ', ?_⟩
      rw [show pickF Q a i o = o by unfold pickF; rw [if_neg hs]]
      simp only [c_X3_cover_38, hle, hs', nI_1, if_true, if_false, not_true_eq_false, not_false_eq_true, Bool.false_eq_true, Bool.true_eq_false, reduceIte, ite_true, ite_false]
      exact h'
theorem coverY (w : aW) {κ : aK} (a1 a2 : Int32) {a : Nat} (ha : a < 512) (Q : Nat → Bool)
    (hv : ∀ i Y, i ≤ a → subB a i = true → Y.1 0 = 0 → Kept Y 8 κ → ∃ Y', Yk Y Y' ∧ Kept Y' 8 κ ∧ ∀ k b3, c_X4_cover_75 50 a1 a2 k b3 (nI a) (nI i) (putY w κ Y) = k (if Q i = true then nI i else b3) (nI a) (nI (i + 1)) (putY w κ Y')) :
    ∀ (m i : Nat) (o : Option Nat) (Y : aY) (n : Nat), i + m = a + 1 → m < n → (∀ z, o = some z → z < 512) → Y.1 0 = 0 → Kept Y 8 κ → ∃ Y', Yk Y Y' ∧ loop4 (c_X4_cover_42 50 a1 a2) n (o4 o) (nI a) (nI i) (putY w κ Y) = some (o4 (itr (pickF Q a) i m o), putY w κ Y')
  | 0, i, o, Y, n + 1, hm, _, _, _, _ => by
    have : i = a + 1 := by omega
    subst this
    refine ⟨Y, Yk.refl Y, ?_⟩
    rw [loop4_s]
    simp only [c_X4_cover_42, gt_nI ha, if_true, if_false, not_true_eq_false, not_false_eq_true, Bool.false_eq_true, Bool.true_eq_false, reduceIte, ite_true, ite_false]
    rfl
  | m + 1, i, o, Y, n + 1, hm, hn, ho, h0, hK => by
    rw [loop4_s]
    have hle := ngt_nI ha (show i ≤ a by omega)
    show ∃ Y', Yk Y Y' ∧ _ = some (o4 (itr (pickF Q a) (i + 1) m (pickF Q a i o)), _)
    by_cases hs : subB a i = true
    · have hs' : nI i &&& (nI a ^^^ (-1)) = 0 := of_decide_eq_true hs
      have step : fewB i o = true → ∀ w1, (∀ k, c_X4_cover_42 50 a1 a2 k (o4 o) (nI a) (nI i) w1 = c_X4_cover_75 50 a1 a2 k (o4 o) (nI a) (nI i) w1) → w1 = putY w κ Y → ∃ Y', Yk Y Y' ∧ c_X4_cover_42 50 a1 a2 (loop4 (c_X4_cover_42 50 a1 a2) n) (o4 o) (nI a) (nI i) w1 = some (o4 (itr (pickF Q a) (i + 1) m (pickF Q a i o)), putY w κ Y') := by
        intro hf w1 hk hw1
        subst hw1
        obtain ⟨Y1, e1, hK1, h1⟩ := hv i Y (by omega) hs h0 hK
        by_cases hQ : Q i = true
        · obtain ⟨Y', e', h'⟩ := coverY w a1 a2 ha Q hv m (i + 1) (some i) Y1 n (by omega) (by omega) (fun z h => by cases h; omega) (e1.1.1.trans h0) hK1
          refine ⟨Y', e1.trans e', ?_⟩
          rw [hk, h1, if_pos hQ, show pickF Q a i o = some i by unfold pickF; rw [if_pos hs, if_pos hf, if_pos hQ]]
          exact h'
        · obtain ⟨Y', e', h'⟩ := coverY w a1 a2 ha Q hv m (i + 1) o Y1 n (by omega) (by omega) ho (e1.1.1.trans h0) hK1
          refine ⟨Y', e1.trans e', ?_⟩
          rw [hk, h1, if_neg hQ, show pickF Q a i o = o by unfold pickF; rw [if_pos hs, if_pos hf, if_neg hQ]]
          exact h'
      match o, ho, step with
      | none, ho, step =>
        exact step rfl _ (fun k => by simp only [c_X4_cover_42, hle, hs', show o4 none < 0 from m4_lt, if_true, if_false, not_true_eq_false, not_false_eq_true, Bool.false_eq_true, Bool.true_eq_false, reduceIte, ite_true, ite_false]) rfl
      | some z, ho, step =>
        have hz := ho z rfl
        have hz0 : ¬ o4 (some z) < 0 := nI_nlt0 (by omega)
        by_cases hf : popI (nI z) ≤ popI (nI i)
        · obtain ⟨Y', e', h'⟩ := coverY w a1 a2 ha Q hv m (i + 1) (some z) Y n (by omega) (by omega) ho h0 hK
          refine ⟨Y', e', ?_⟩
          have hfe : ¬ fewB i (some z) = true := by unfold fewB; simp [hf]
          rw [show pickF Q a i (some z) = some z by unfold pickF; rw [if_pos hs, if_neg hfe]]
          simp only [c_X4_cover_42, hle, hs', hz0, m_onesOf (show i < 512 by omega), show o4 (some z) = nI z from rfl, m_onesOf hz, bk_some, hf, nI_1, if_true, if_false, not_true_eq_false, not_false_eq_true, Bool.false_eq_true, Bool.true_eq_false, reduceIte, ite_true, ite_false] at hz0 ⊢
          simp only [hz0, m_onesOf (show i < 512 by omega), m_onesOf hz, bk_some, hf, nI_1, if_true, if_false, not_true_eq_false, not_false_eq_true, Bool.false_eq_true, Bool.true_eq_false, reduceIte, ite_true, ite_false]
          exact h'
        · have hfe : fewB i (some z) = true := by unfold fewB; simp [hf]
          refine step hfe _ (fun k => ?_) rfl
          have hz1 : ¬ nI z < 0 := hz0
          simp only [c_X4_cover_42, hle, hs', show o4 (some z) = nI z from rfl, hz1, m_onesOf (show i < 512 by omega), m_onesOf hz, bk_some, hf, if_true, if_false, not_true_eq_false, not_false_eq_true, Bool.false_eq_true, Bool.true_eq_false, reduceIte, ite_true, ite_false]
    · have hs' : ¬ nI i &&& (nI a ^^^ (-1)) = 0 := fun z => hs (decide_eq_true z)
      obtain ⟨Y', e', h'⟩ := coverY w a1 a2 ha Q hv m (i + 1) o Y n (by omega) (by omega) ho h0 hK
      refine ⟨Y', e', ?_⟩
      rw [show pickF Q a i o = o by unfold pickF; rw [if_neg hs]]
      simp only [c_X4_cover_42, hle, hs', nI_1, if_true, if_false, not_true_eq_false, not_false_eq_true, Bool.false_eq_true, Bool.true_eq_false, reduceIte, ite_true, ite_false]
      exact h'
/-! letGo -/
def letGoQ (κ : aK) (a n i : Nat) : Bool := keepsB (nI a &&& (nI i ^^^ (-1))) n (itr (giveF (fun z => bitB (nI i) (nI z)) (-4)) 0 9 κ)
theorem x_saves (w : aW) {X : aX} (hW : WF X.1) (a i : Nat) {n : Nat} (hn : n < 1000) (μ : aK) : ∃ μ', f_X3_savesTheRest 0 (nI a) (nI i) (nI n) (putX w (xmind X μ)) = some (zb (letGoQ X.1 a n i), putX w (xmind X μ')) := by
  obtain ⟨μ1, h1⟩ := T_keeps w (X := xmind X (itr (giveF (fun z => bitB (nI i) (nI z)) (-4)) 0 9 X.1)) (free_WF hW) (nI a &&& (nI i ^^^ (-1))) hn
  rw [xmind_2, xmind_1] at h1
  refine ⟨μ1, ?_⟩
  unfold f_X3_savesTheRest letGoQ
  simp only [gR_X0, gR_X1, gR_X2, gI_X3, gR_X4, gR_X5, gR_X6, cV_X, x_think, xmind_1, xmind_0, xmind_2, xnow_0, xnow_1, xnow_2, bk_some, bind_some', zb_0, zb_1, zb_or, cc_or, T_cV, T_gI0, T_gI1, T_gI2, T_gI3, T_gR4, T_gR5, T_gR6, T_gR7, T_gR8, T_gR9, T_gR10, T_gR11, T_gR12, T_hasBeast, T_isAlive, T_calledBy, T_calledByAnybody, T_needTogether, T_workTogether, T_freeOnes, T_giveAll, h1, if_true, if_false, not_true_eq_false, not_false_eq_true, Bool.false_eq_true, Bool.true_eq_false, reduceIte, ite_true, ite_false]
def letGoK (x n : Int32) (κ : aK) : Int32 := if inR x 0 4 = true then (if inR n 0 20 = true then o4 (itr (pickF (letGoQ κ (ix (calledK κ x)) (ix n)) (ix (calledK κ x))) 0 (ix (calledK κ x) + 1) none) else -1) else -1
theorem sub_self {a : Nat} (ha : a < 512) : subB a a = true := by
  refine decide_eq_true ?_
  obtain ⟨b, hb, hB⟩ := and_lt ha (nI a ^^^ (-1))
  rw [hB]
  refine ext9 (b := 0) hb (by decide) (fun z hz => ?_)
  rw [← hB, bit_and _ _ (by omega), bit_not _ (by omega), show nI 0 = 0 from rfl, bit_0 (by omega)]
  cases bitB (nI a) (nI z) <;> rfl
theorem keeps_0 : ∀ (n : Nat) (κ : aK), keepsB 0 n κ = true
  | 0, _ => rfl
  | n + 1, κ => by
    unfold keepsB
    rw [if_pos (show allB 0 (passK 0 κ) = true from by unfold allB; simp)]
    exact keeps_0 n _
theorem pick_some {Q : Nat → Bool} {a : Nat} (ha : a < 512) (hQ : Q a = true) : ∃ z, itr (pickF Q a) 0 (a + 1) none = some z := by
  rw [itr_add a 1 0 none]
  show ∃ z, pickF Q a (0 + a) (itr (pickF Q a) 0 a none) = some z
  rw [Nat.zero_add]
  generalize itr (pickF Q a) 0 a none = o
  unfold pickF
  rw [if_pos (sub_self ha), if_pos hQ]
  cases o with
  | none => exact ⟨a, rfl⟩
  | some z =>
    split
    · exact ⟨a, rfl⟩
    · exact ⟨z, rfl⟩
theorem letGo_all {κ : aK} {a : Nat} (ha : a < 512) (n : Nat) : letGoQ κ a n a = true := by
  unfold letGoQ
  rw [show nI a &&& (nI a ^^^ (-1)) = 0 from of_decide_eq_true (sub_self ha)]
  exact keeps_0 n _
theorem x_letGo (w : aW) {X : aX} (hW : WF X.1) (x n : Int32) : ∃ μ, f_X3_letGo 0 x n (putX w X) = some (letGoK x n X.1, putX w (xmind X μ)) := by
  unfold f_X3_letGo letGoK
  by_cases h1 : inR x 0 4 = true
  · by_cases h2 : inR n 0 20 = true
    · obtain ⟨p, hp, hx⟩ := inP h1
      obtain ⟨m, hm, hn⟩ := least_in h2
      subst hx hn
      obtain ⟨a, ha, hA⟩ := called_lt X.1 (nI p)
      obtain ⟨μ, hμ⟩ := letGoX w X (nI p) (nI m) ha (letGoQ X.1 a m) (fun o => o.elim (nI a) nI) (fun _ => rfl) (fun i μ _ _ => x_saves w hW a i (show m < 1000 by omega) μ) (a + 1) 0 none X.2.1 a_fuel (by omega) (show a + 1 < 1000 by omega)
      refine ⟨μ, ?_⟩
      obtain ⟨z, hz⟩ := pick_some ha (letGo_all (κ := X.1) ha m)
      rw [hz] at hμ
      simp only [h1, h2, p_isPerson, p_within, gR_X0, gR_X1, gR_X2, gI_X3, gR_X4, gR_X5, gR_X6, cV_X, x_think, xmind_1, xmind_0, xmind_2, xnow_0, xnow_1, xnow_2, bk_some, bind_some', zb_0, zb_1, zb_or, cc_or, N_cV, N_gI0, N_gI1, N_gI2, N_gI3, N_gR4, N_gR5, N_gR6, N_gR7, N_gR8, N_gR9, N_gR10, N_gR11, N_gR12, N_hasBeast, N_isAlive, N_calledBy, N_calledByAnybody, N_needTogether, N_workTogether, N_freeOnes, hA, ix_nI (show m < 2 ^ 31 by omega), ix_nI (show a < 2 ^ 31 by omega), hz, if_true, if_false, not_true_eq_false, not_false_eq_true, Bool.false_eq_true, Bool.true_eq_false, reduceIte, ite_true, ite_false]
      exact hμ
    · have h2 := Bool.eq_false_iff.mpr h2
      exact ⟨X.2.1, by simp only [h1, h2, gR_X0, gR_X1, gR_X2, gI_X3, gR_X4, gR_X5, gR_X6, cV_X, x_think, xmind_1, xmind_0, xmind_2, xnow_0, xnow_1, xnow_2, bk_some, bind_some', zb_0, zb_1, zb_or, cc_or, p_isPerson, p_within, if_true, if_false, not_true_eq_false, not_false_eq_true, Bool.false_eq_true, Bool.true_eq_false, reduceIte, ite_true, ite_false]; rfl⟩
  · have h1 := Bool.eq_false_iff.mpr h1
    exact ⟨X.2.1, by simp only [h1, gR_X0, gR_X1, gR_X2, gI_X3, gR_X4, gR_X5, gR_X6, cV_X, x_think, xmind_1, xmind_0, xmind_2, xnow_0, xnow_1, xnow_2, bk_some, bind_some', zb_0, zb_1, zb_or, cc_or, p_isPerson, p_within, if_true, if_false, not_true_eq_false, not_false_eq_true, Bool.false_eq_true, Bool.true_eq_false, reduceIte, ite_true, ite_false]; rfl⟩
theorem called_many {κ : aK} (hW : WF κ) {p i : Nat} (hp : p < 5) (h1 : κ.1 ≤ i) (h2 : i < 9) : bitB (calledK κ (nI p)) (nI i) = false := by
  unfold calledK
  rw [bit_msk _ (by decide) (by omega), out_called hW hp h1 h2, Bool.and_false]
theorem m_letGo (w : aW) (Y : aY) {κ : aK} (hW : WF κ) (hC : CA κ) (hs : Y.1 0 = 0) (x n : Int32) : ∃ Y', Yk Y Y' ∧ f_X4_letGo 50 x n (putY w κ Y) = some (letGoK x n κ, putY w κ Y') := by
  have hk9 := hW.1
  unfold f_X4_letGo letGoK
  by_cases h1 : inR x 0 4 = true
  · by_cases h2 : inR n 0 20 = true
    · obtain ⟨p, hp, hx⟩ := inP h1
      obtain ⟨m, hm, hn⟩ := least_in h2
      subst hx hn
      obtain ⟨a, ha, hA⟩ := called_lt κ (nI p)
      obtain ⟨Y1, e1, hK, ht⟩ := k_think w (yint Y 1 0) hk9
      have hs1 : Y1.1 0 = 0 := e1.1.1.trans hs
      obtain ⟨Y2, e2, hl⟩ := letGoY w (κ := κ) (nI p) (nI m) ha (letGoQ κ a m) (fun i Y hi hsub h0 hK => by
        have hcm : ∀ i', κ.1 ≤ i' → i' < 9 → bitB (nI i) (nI i') = false := fun i' h1 h2 => by
          cases hc : bitB (nI i) (nI i')
          · rfl
          · have h3 := sub_bits ha hsub h2 hc
            rw [← hA, called_many hW hp h1 h2] at h3
            exact h3.symm
        have hca := m_callAll w Y hk9 (nI i) (-4) hcm
        have hg := give_21 (fun z => bitB (nI i) (nI z)) (-4) 9 0 κ
        obtain ⟨Y1, e1, hK1, hal⟩ := m_allLive w hk9 Y (free_WF (P := fun z => bitB (nI i) (nI z)) hW) h0 hK (nI a &&& (nI i ^^^ (-1))) (show m < 1000 by omega)
        have hall : allB (nI a &&& (nI i ^^^ (-1))) (itr (giveF (fun z => bitB (nI i) (nI z)) (-4)) 0 9 κ) = true := by
          rw [allB_21 hg]
          exact and_sub ha (by rw [← hA]; exact called_all hC hp)
        obtain ⟨b, hb, hB⟩ := and_lt ha (nI i ^^^ (-1))
        have hQe : letGoQ κ a m i = allB (nI a &&& (nI i ^^^ (-1))) (daysK m (itr (giveF (fun z => bitB (nI i) (nI z)) (-4)) 0 9 κ)) := by
          unfold letGoQ
          rw [hB] at hall ⊢
          exact keeps_all hb m _ hall
        rw [← hQe] at hal
        refine ⟨Y1, e1, hK1, fun k b3 => ?_⟩
        simp only [c_X4_letGo_76, gI_Y0, gR_Y1, gR_Y2, gR_Y3, gR_Y4, gR_Y5, gI_Y6, gR_Y7, gR_Y8, gR_Y9, gR_Y10, gI_Y11, gI_Y12, gR_Y13, gR_Y14, gR_Y15, gR_Y16, gR_Y17, gR_Y18, gI_Y19, gI_Y20, gI_Y21, gI_Y22, gI_Y23, gR_Y24, gR_Y25, gR_Y26, gR_Y27, gR_Y28, gI_Y29, gI_Y30, gI_Y31, gR_Y33, gR_Y34, gI_Y35, gR_Y36, cV_Y, bk_some, bind_some', zb_0, zb_1, zb_or, cc_or, kset_1, kset_21, kint_1, kint_21, kint_22, putY_moved, hca, hal, nI_1, if_true, if_false, not_true_eq_false, not_false_eq_true, Bool.false_eq_true, Bool.true_eq_false, reduceIte, ite_true, ite_false]
        by_cases hQ : letGoQ κ a m i = true
        · simp only [hQ, nI_1, if_true, if_false, not_true_eq_false, not_false_eq_true, Bool.false_eq_true, Bool.true_eq_false, reduceIte, ite_true, ite_false]
        · simp only [Bool.eq_false_iff.mpr hQ, nI_1, if_true, if_false, not_true_eq_false, not_false_eq_true, Bool.false_eq_true, Bool.true_eq_false, reduceIte, ite_true, ite_false]) (a + 1) 0 none Y1 a_fuel (by omega) (show a + 1 < 1000 by omega) (fun z h => by cases h) hs1 hK
      refine ⟨Y2, ((Yk.thrown Y 0).trans e1).trans e2, ?_⟩
      have hcb := m_calledBits w (yint Y 1 0) hW hp
      rw [hA] at hcb
      simp only [p_in32 (x := nI m) (a := 0) (b := 20) (a' := 0) (b' := 20) rfl rfl, h1, h2, m_isPerson, hcb, sF_Y19, gI_Y0, gR_Y1, gR_Y2, gR_Y3, gR_Y4, gR_Y5, gI_Y6, gR_Y7, gR_Y8, gR_Y9, gR_Y10, gI_Y11, gI_Y12, gR_Y13, gR_Y14, gR_Y15, gR_Y16, gR_Y17, gR_Y18, gI_Y19, gI_Y20, gI_Y21, gI_Y22, gI_Y23, gR_Y24, gR_Y25, gR_Y26, gR_Y27, gR_Y28, gI_Y29, gI_Y30, gI_Y31, gR_Y33, gR_Y34, gI_Y35, gR_Y36, cV_Y, bk_some, bind_some', zb_0, zb_1, zb_or, cc_or, kset_1, kset_21, kint_1, kint_21, kint_22, putY_moved, ht, hA, ix_nI (show a < 2 ^ 31 by omega), ix_nI (show m < 2 ^ 31 by omega), if_true, if_false, not_true_eq_false, not_false_eq_true, Bool.false_eq_true, Bool.true_eq_false, reduceIte, ite_true, ite_false]
      exact hl
    · have h2 := Bool.eq_false_iff.mpr h2
      refine ⟨yint Y 1 0, Yk.thrown Y 0, ?_⟩
      simp only [p_in32 (x := n) (a := 0) (b := 20) (a' := 0) (b' := 20) rfl rfl, h1, h2, m_isPerson, sF_Y19, gI_Y0, gR_Y1, gR_Y2, gR_Y3, gR_Y4, gR_Y5, gI_Y6, gR_Y7, gR_Y8, gR_Y9, gR_Y10, gI_Y11, gI_Y12, gR_Y13, gR_Y14, gR_Y15, gR_Y16, gR_Y17, gR_Y18, gI_Y19, gI_Y20, gI_Y21, gI_Y22, gI_Y23, gR_Y24, gR_Y25, gR_Y26, gR_Y27, gR_Y28, gI_Y29, gI_Y30, gI_Y31, gR_Y33, gR_Y34, gI_Y35, gR_Y36, cV_Y, bk_some, bind_some', zb_0, zb_1, zb_or, cc_or, kset_1, kset_21, kint_1, kint_21, kint_22, putY_moved, if_true, if_false, not_true_eq_false, not_false_eq_true, Bool.false_eq_true, Bool.true_eq_false, reduceIte, ite_true, ite_false]
  · have h1 := Bool.eq_false_iff.mpr h1
    refine ⟨yint Y 1 0, Yk.thrown Y 0, ?_⟩
    simp only [h1, m_isPerson, sF_Y19, gI_Y0, gR_Y1, gR_Y2, gR_Y3, gR_Y4, gR_Y5, gI_Y6, gR_Y7, gR_Y8, gR_Y9, gR_Y10, gI_Y11, gI_Y12, gR_Y13, gR_Y14, gR_Y15, gR_Y16, gR_Y17, gR_Y18, gI_Y19, gI_Y20, gI_Y21, gI_Y22, gI_Y23, gR_Y24, gR_Y25, gR_Y26, gR_Y27, gR_Y28, gI_Y29, gI_Y30, gI_Y31, gR_Y33, gR_Y34, gI_Y35, gR_Y36, cV_Y, bk_some, bind_some', zb_0, zb_1, zb_or, cc_or, kset_1, kset_21, kint_1, kint_21, kint_22, putY_moved, if_true, if_false, not_true_eq_false, not_false_eq_true, Bool.false_eq_true, Bool.true_eq_false, reduceIte, ite_true, ite_false]
/-! cover -/
def givenK (κ : aK) (p i : Nat) : aK := itr (giveF (fun z => bitB (nI i) (nI z)) (nI p)) 0 9 κ
def coverQ (κ : aK) (p : Nat) (v : Int32) (i : Nat) : Bool := decide (v ≤ sumK (fun z => bitB (calledK κ (nI p) ||| nI i) (nI z)) (workK κ) 9) && keepsB (calledK κ (nI p) ||| nI i) 12 (givenK κ p i)
theorem free_lt {κ : aK} (hW : WF κ) : ∃ a, a < 512 ∧ freeK κ = nI a := by
  obtain ⟨a, ha, hA⟩ := hW.2.2.2.1
  unfold freeK
  rw [hA]
  exact and_lt ha _
theorem free_many {κ : aK} (hW : WF κ) {i : Nat} (h1 : κ.1 ≤ i) (h2 : i < 9) : bitB (freeK κ) (nI i) = false := by
  rw [bit_free h2, (hW.2.2.2.2 i h1 h2).2]; rfl
theorem given_WF {κ : aK} (hW : WF κ) {p : Nat} (hp : p < 5) {a i : Nat} (ha : a < 512) (hA : freeK κ = nI a) (hs : subB a i = true) : WF (givenK κ p i) :=
  give_WF hp hW (fun z hz h => by
    have h3 := sub_bits ha hs hz h
    rw [← hA, bit_free hz, Bool.and_eq_true] at h3
    exact hW.many hz h3.1)
theorem x_covers (w : aW) {X : aX} (hW : WF X.1) {p : Nat} (hp : p < 5) (v : Int32) {a i : Nat} (ha : a < 512) (hA : freeK X.1 = nI a) (hs : subB a i = true) (μ : aK) : ∃ μ', f_X3_covers 0 (nI p) v (nI i) (putX w (xmind X μ)) = some (zb (coverQ X.1 p v i), putX w (xmind X μ')) := by
  obtain ⟨μ1, h1⟩ := T_keeps w (X := xmind X (givenK X.1 p i)) (given_WF hW hp ha hA hs) (calledK X.1 (nI p) ||| nI i) (n := 12) (by decide)
  rw [xmind_2, xmind_1, show nI 12 = 12 from rfl] at h1
  unfold givenK at h1
  unfold f_X3_covers coverQ givenK
  by_cases hv : v ≤ sumK (fun z => bitB (calledK X.1 (nI p) ||| nI i) (nI z)) (workK X.1) 9
  · refine ⟨μ1, ?_⟩
    rw [decide_eq_true hv, Bool.true_and]
    simp only [gR_X0, gR_X1, gR_X2, gI_X3, gR_X4, gR_X5, gR_X6, cV_X, x_think, xmind_1, xmind_0, xmind_2, xnow_0, xnow_1, xnow_2, bk_some, bind_some', zb_0, zb_1, zb_or, cc_or, N_cV, N_gI0, N_gI1, N_gI2, N_gI3, N_gR4, N_gR5, N_gR6, N_gR7, N_gR8, N_gR9, N_gR10, N_gR11, N_gR12, N_hasBeast, N_isAlive, N_calledBy, N_calledByAnybody, N_needTogether, N_workTogether, N_freeOnes, T_cV, T_gI0, T_gI1, T_gI2, T_gI3, T_gR4, T_gR5, T_gR6, T_gR7, T_gR8, T_gR9, T_gR10, T_gR11, T_gR12, T_hasBeast, T_isAlive, T_calledBy, T_calledByAnybody, T_needTogether, T_workTogether, T_freeOnes, hv, T_giveAll, h1, if_true, if_false, not_true_eq_false, not_false_eq_true, Bool.false_eq_true, Bool.true_eq_false, reduceIte, ite_true, ite_false]
  · refine ⟨μ, ?_⟩
    rw [decide_eq_false hv, Bool.false_and]
    simp only [gR_X0, gR_X1, gR_X2, gI_X3, gR_X4, gR_X5, gR_X6, cV_X, x_think, xmind_1, xmind_0, xmind_2, xnow_0, xnow_1, xnow_2, bk_some, bind_some', zb_0, zb_1, zb_or, cc_or, N_cV, N_gI0, N_gI1, N_gI2, N_gI3, N_gR4, N_gR5, N_gR6, N_gR7, N_gR8, N_gR9, N_gR10, N_gR11, N_gR12, N_hasBeast, N_isAlive, N_calledBy, N_calledByAnybody, N_needTogether, N_workTogether, N_freeOnes, hv, if_true, if_false, not_true_eq_false, not_false_eq_true, Bool.false_eq_true, Bool.true_eq_false, reduceIte, ite_true, ite_false]
    rfl
def coverK (x v : Int32) (κ : aK) : Int32 := if inR x 0 4 = true then (if inR v 0 99 = true then o4 (itr (pickF (coverQ κ (ix x) v) (ix (freeK κ))) 0 (ix (freeK κ) + 1) none) else -1) else -1
theorem x_cover (w : aW) {X : aX} (hW : WF X.1) (x v : Int32) : ∃ μ, f_X3_cover 0 x v (putX w X) = some (coverK x v X.1, putX w (xmind X μ)) := by
  unfold f_X3_cover coverK
  by_cases h1 : inR x 0 4 = true
  · by_cases h2 : inR v 0 99 = true
    · obtain ⟨p, hp, hx⟩ := inP h1
      subst hx
      obtain ⟨a, ha, hA⟩ := free_lt hW
      obtain ⟨μ, hμ⟩ := coverX w X (nI p) v ha (coverQ X.1 p v) o4 (fun _ => rfl) (fun i μ _ hs => x_covers w hW hp v ha hA hs μ) (a + 1) 0 none X.2.1 a_fuel (by omega) (show a + 1 < 1000 by omega)
      refine ⟨μ, ?_⟩
      simp only [h1, h2, p_isPerson, p_within, gR_X0, gR_X1, gR_X2, gI_X3, gR_X4, gR_X5, gR_X6, cV_X, x_think, xmind_1, xmind_0, xmind_2, xnow_0, xnow_1, xnow_2, bk_some, bind_some', zb_0, zb_1, zb_or, cc_or, N_cV, N_gI0, N_gI1, N_gI2, N_gI3, N_gR4, N_gR5, N_gR6, N_gR7, N_gR8, N_gR9, N_gR10, N_gR11, N_gR12, N_hasBeast, N_isAlive, N_calledBy, N_calledByAnybody, N_needTogether, N_workTogether, N_freeOnes, hA, ix_nI (show p < 2 ^ 31 by omega), ix_nI (show a < 2 ^ 31 by omega), if_true, if_false, not_true_eq_false, not_false_eq_true, Bool.false_eq_true, Bool.true_eq_false, reduceIte, ite_true, ite_false]
      exact hμ
    · have h2 := Bool.eq_false_iff.mpr h2
      exact ⟨X.2.1, by simp only [h1, h2, gR_X0, gR_X1, gR_X2, gI_X3, gR_X4, gR_X5, gR_X6, cV_X, x_think, xmind_1, xmind_0, xmind_2, xnow_0, xnow_1, xnow_2, bk_some, bind_some', zb_0, zb_1, zb_or, cc_or, p_isPerson, p_within, if_true, if_false, not_true_eq_false, not_false_eq_true, Bool.false_eq_true, Bool.true_eq_false, reduceIte, ite_true, ite_false]; rfl⟩
  · have h1 := Bool.eq_false_iff.mpr h1
    exact ⟨X.2.1, by simp only [h1, gR_X0, gR_X1, gR_X2, gI_X3, gR_X4, gR_X5, gR_X6, cV_X, x_think, xmind_1, xmind_0, xmind_2, xnow_0, xnow_1, xnow_2, bk_some, bind_some', zb_0, zb_1, zb_or, cc_or, p_isPerson, p_within, if_true, if_false, not_true_eq_false, not_false_eq_true, Bool.false_eq_true, Bool.true_eq_false, reduceIte, ite_true, ite_false]; rfl⟩
theorem called_given {κ : aK} {p i : Nat} (hp : p < 5) (hi : i < 512) : calledK (givenK κ p i) (nI p) = calledK κ (nI p) ||| nI i := by
  obtain ⟨a, ha, hA⟩ := called_lt (givenK κ p i) (nI p)
  obtain ⟨b, hb, hB⟩ := called_lt κ (nI p)
  obtain ⟨c, hc, hC⟩ := or_lt' hb hi
  rw [hA, hB, hC]
  refine ext9 ha hc (fun z hz => ?_)
  rw [← hA, ← hC, ← hB, bit_orr _ _ (by omega)]
  unfold calledK givenK
  rw [bit_msk _ (by decide) (by omega), bit_msk _ (by decide) (by omega), give_get, decide_eq_true hz, Bool.true_and, Bool.true_and]
  by_cases h : bitB (nI i) (nI z) = true
  · rw [if_pos ⟨by omega, by omega, h⟩, h, decide_eq_true rfl, Bool.or_true]
  · rw [if_neg (fun q => h q.2.2), Bool.eq_false_iff.mpr h, Bool.or_false]
theorem work_given {κ : aK} {p i : Nat} : workK (givenK κ p i) = workK κ := by
  funext z
  unfold workK givenK
  rw [give_oth _ _ (by decide), give_oth _ _ (by decide)]
theorem m_cover (w : aW) (Y : aY) {κ : aK} (hW : WF κ) (hC : CA κ) (hs : Y.1 0 = 0) (x v : Int32) : ∃ Y', Yk Y Y' ∧ f_X4_cover 50 x v (putY w κ Y) = some (coverK x v κ, putY w κ Y') := by
  have hk9 := hW.1
  unfold f_X4_cover coverK
  by_cases h1 : inR x 0 4 = true
  · by_cases h2 : inR v 0 99 = true
    · obtain ⟨p, hp, hx⟩ := inP h1
      subst hx
      obtain ⟨a, ha, hA⟩ := free_lt hW
      obtain ⟨Y1, e1, hK, ht⟩ := k_think w (yint Y 1 0) hk9
      have hs1 : Y1.1 0 = 0 := e1.1.1.trans hs
      obtain ⟨Y2, e2, hl⟩ := coverY w (κ := κ) (nI p) v ha (coverQ κ p v) (fun i Y hi hsub h0 hK => by
        have hcm : ∀ i', κ.1 ≤ i' → i' < 9 → bitB (nI i) (nI i') = false := fun i' h1 h2 => by
          cases hc : bitB (nI i) (nI i')
          · rfl
          · have h3 := sub_bits ha hsub h2 hc
            rw [← hA, free_many hW h1 h2] at h3
            exact h3.symm
        have hca : f_X4_callAll 50 (nI i) (nI p) (putY w κ Y) = some ((), putY w (givenK κ p i) Y) := m_callAll w Y hk9 (nI i) (nI p) hcm
        have hg : (givenK κ p i).2.1 = κ.2.1 := give_21 (fun z => bitB (nI i) (nI z)) (nI p) 9 0 κ
        have hWg := given_WF hW hp ha hA hsub
        have hwb := m_workBy w Y hWg hp
        have hcb := m_calledBits w Y hWg hp
        rw [called_given hp (by omega)] at hcb
        rw [called_given hp (by omega), work_given] at hwb
        obtain ⟨b, hb, hB⟩ := called_lt κ (nI p)
        obtain ⟨c, hc, hCo⟩ := or_lt' hb (show i < 512 by omega)
        have hall : allB (nI c) (givenK κ p i) = true := by
          rw [allB_21 hg, all_bits hc]
          intro z hz hm
          rw [← hCo, bit_orr _ _ (by omega), Bool.or_eq_true] at hm
          rcases hm with hm | hm
          · have h5 := called_all hC hp
            rw [hB, all_bits hb] at h5
            exact h5 z hz hm
          · have h3 := sub_bits ha hsub hz hm
            rw [← hA, bit_free hz, Bool.and_eq_true] at h3
            exact h3.1
        by_cases hv : v ≤ sumK (fun z => bitB (calledK κ (nI p) ||| nI i) (nI z)) (workK κ) 9
        · obtain ⟨Y1, e1, hK1, hal⟩ := m_allLive w hk9 Y hWg h0 hK (calledK κ (nI p) ||| nI i) (n := 12) (by decide)
          have hQe : coverQ κ p v i = allB (calledK κ (nI p) ||| nI i) (daysK 12 (givenK κ p i)) := by
            unfold coverQ
            rw [decide_eq_true hv, Bool.true_and, hB, hCo]
            exact keeps_all hc 12 _ hall
          rw [← hQe] at hal
          have hv' := Int32.not_lt.mpr hv
          refine ⟨Y1, e1, hK1, fun k b3 => ?_⟩
          rw [show nI 12 = 12 from rfl] at hal
          simp only [c_X4_cover_75, c_X4_cover_111, gI_Y0, gR_Y1, gR_Y2, gR_Y3, gR_Y4, gR_Y5, gI_Y6, gR_Y7, gR_Y8, gR_Y9, gR_Y10, gI_Y11, gI_Y12, gR_Y13, gR_Y14, gR_Y15, gR_Y16, gR_Y17, gR_Y18, gI_Y19, gI_Y20, gI_Y21, gI_Y22, gI_Y23, gR_Y24, gR_Y25, gR_Y26, gR_Y27, gR_Y28, gI_Y29, gI_Y30, gI_Y31, gR_Y33, gR_Y34, gI_Y35, gR_Y36, cV_Y, bk_some, bind_some', zb_0, zb_1, zb_or, cc_or, kset_1, kset_21, kint_1, kint_21, kint_22, putY_moved, hca, hwb, hcb, hv', hal, nI_1, if_true, if_false, not_true_eq_false, not_false_eq_true, Bool.false_eq_true, Bool.true_eq_false, reduceIte, ite_true, ite_false]
          by_cases hQ : coverQ κ p v i = true
          · simp only [hQ, nI_1, if_true, if_false, not_true_eq_false, not_false_eq_true, Bool.false_eq_true, Bool.true_eq_false, reduceIte, ite_true, ite_false]
          · simp only [Bool.eq_false_iff.mpr hQ, nI_1, if_true, if_false, not_true_eq_false, not_false_eq_true, Bool.false_eq_true, Bool.true_eq_false, reduceIte, ite_true, ite_false]
        · obtain ⟨Y1, e1, hK1, hal⟩ := m_allLive w hk9 Y hWg h0 hK (calledK κ (nI p) ||| nI i) (n := 0) (by decide)
          have hQe : coverQ κ p v i = false := by
            unfold coverQ
            rw [decide_eq_false hv, Bool.false_and]
          have hv' := Int32.not_le.mp hv
          refine ⟨Y1, e1, hK1, fun k b3 => ?_⟩
          rw [show nI 0 = 0 from rfl] at hal
          simp only [c_X4_cover_75, c_X4_cover_111, gI_Y0, gR_Y1, gR_Y2, gR_Y3, gR_Y4, gR_Y5, gI_Y6, gR_Y7, gR_Y8, gR_Y9, gR_Y10, gI_Y11, gI_Y12, gR_Y13, gR_Y14, gR_Y15, gR_Y16, gR_Y17, gR_Y18, gI_Y19, gI_Y20, gI_Y21, gI_Y22, gI_Y23, gR_Y24, gR_Y25, gR_Y26, gR_Y27, gR_Y28, gI_Y29, gI_Y30, gI_Y31, gR_Y33, gR_Y34, gI_Y35, gR_Y36, cV_Y, bk_some, bind_some', zb_0, zb_1, zb_or, cc_or, kset_1, kset_21, kint_1, kint_21, kint_22, putY_moved, hca, hwb, hcb, hv', hal, hQe, nI_1, if_true, if_false, not_true_eq_false, not_false_eq_true, Bool.false_eq_true, Bool.true_eq_false, reduceIte, ite_true, ite_false]
          split <;> rfl) (a + 1) 0 none Y1 a_fuel (by omega) (show a + 1 < 1000 by omega) (fun z h => by cases h) hs1 hK
      refine ⟨Y2, ((Yk.thrown Y 0).trans e1).trans e2, ?_⟩
      have hcb := m_freeBits w (yint Y 1 0) hW
      rw [hA] at hcb
      simp only [p_in32 (x := v) (a := 0) (b := 99) (a' := 0) (b' := 99) rfl rfl, h1, h2, m_isPerson, hcb, sF_Y19, gI_Y0, gR_Y1, gR_Y2, gR_Y3, gR_Y4, gR_Y5, gI_Y6, gR_Y7, gR_Y8, gR_Y9, gR_Y10, gI_Y11, gI_Y12, gR_Y13, gR_Y14, gR_Y15, gR_Y16, gR_Y17, gR_Y18, gI_Y19, gI_Y20, gI_Y21, gI_Y22, gI_Y23, gR_Y24, gR_Y25, gR_Y26, gR_Y27, gR_Y28, gI_Y29, gI_Y30, gI_Y31, gR_Y33, gR_Y34, gI_Y35, gR_Y36, cV_Y, bk_some, bind_some', zb_0, zb_1, zb_or, cc_or, kset_1, kset_21, kint_1, kint_21, kint_22, putY_moved, ht, hA, ix_nI (show a < 2 ^ 31 by omega), ix_nI (show p < 2 ^ 31 by omega), if_true, if_false, not_true_eq_false, not_false_eq_true, Bool.false_eq_true, Bool.true_eq_false, reduceIte, ite_true, ite_false]
      exact hl
    · have h2 := Bool.eq_false_iff.mpr h2
      refine ⟨yint Y 1 0, Yk.thrown Y 0, ?_⟩
      simp only [p_in32 (x := v) (a := 0) (b := 99) (a' := 0) (b' := 99) rfl rfl, h1, h2, m_isPerson, sF_Y19, gI_Y0, gR_Y1, gR_Y2, gR_Y3, gR_Y4, gR_Y5, gI_Y6, gR_Y7, gR_Y8, gR_Y9, gR_Y10, gI_Y11, gI_Y12, gR_Y13, gR_Y14, gR_Y15, gR_Y16, gR_Y17, gR_Y18, gI_Y19, gI_Y20, gI_Y21, gI_Y22, gI_Y23, gR_Y24, gR_Y25, gR_Y26, gR_Y27, gR_Y28, gI_Y29, gI_Y30, gI_Y31, gR_Y33, gR_Y34, gI_Y35, gR_Y36, cV_Y, bk_some, bind_some', zb_0, zb_1, zb_or, cc_or, kset_1, kset_21, kint_1, kint_21, kint_22, putY_moved, if_true, if_false, not_true_eq_false, not_false_eq_true, Bool.false_eq_true, Bool.true_eq_false, reduceIte, ite_true, ite_false]
  · have h1 := Bool.eq_false_iff.mpr h1
    refine ⟨yint Y 1 0, Yk.thrown Y 0, ?_⟩
    simp only [h1, m_isPerson, sF_Y19, gI_Y0, gR_Y1, gR_Y2, gR_Y3, gR_Y4, gR_Y5, gI_Y6, gR_Y7, gR_Y8, gR_Y9, gR_Y10, gI_Y11, gI_Y12, gR_Y13, gR_Y14, gR_Y15, gR_Y16, gR_Y17, gR_Y18, gI_Y19, gI_Y20, gI_Y21, gI_Y22, gI_Y23, gR_Y24, gR_Y25, gR_Y26, gR_Y27, gR_Y28, gI_Y29, gI_Y30, gI_Y31, gR_Y33, gR_Y34, gI_Y35, gR_Y36, cV_Y, bk_some, bind_some', zb_0, zb_1, zb_or, cc_or, kset_1, kset_21, kint_1, kint_21, kint_22, putY_moved, if_true, if_false, not_true_eq_false, not_false_eq_true, Bool.false_eq_true, Bool.true_eq_false, reduceIte, ite_true, ite_false]
