/-! PURE: the model: free, met, speaking, fed; its day -/
theorem m_isFree (w : aW) (y : aY) {κ : aK} (hW : WF κ) {b : Nat} (hb : b < κ.1) : f_X4_isFree 50 (nI b) (putY w κ y) = some (zb (bitB (κ.2.1 1) (nI b) && decide (κ.2.2 4 b = -4)), putY w κ y) := by
  have hk := hW.1
  unfold f_X4_isFree
  simp only [gI_Y0, gR_Y1, gR_Y2, gR_Y3, gR_Y4, gR_Y5, gI_Y6, gR_Y7, gR_Y8, gR_Y9, gR_Y10, gI_Y11, gI_Y12, gR_Y13, gR_Y14, gR_Y15, gR_Y16, gR_Y17, gR_Y18, gI_Y19, gI_Y20, gI_Y21, gI_Y22, gI_Y23, gR_Y24, gR_Y25, gR_Y26, gR_Y27, gR_Y28, gI_Y29, gI_Y30, gI_Y31, gR_Y33, gR_Y34, gI_Y35, gR_Y36, cV_Y, bk_some, bind_some', zb_0, zb_1, zb_or, cc_or, kset_1, kset_21, kint_1, kint_21, kint_22, putY_moved, p_hasBit, gA_Y55 w y hk hb, if_true, if_false, not_true_eq_false, not_false_eq_true, Bool.false_eq_true, Bool.true_eq_false, reduceIte, ite_true, ite_false]
  by_cases h : bitB (κ.2.1 1) (nI b) = true
  · rcases (hW.2.1 b (by omega)).2.2.2.2 with hc | ⟨p, hp, hc⟩
    · simp [h, hc, m4_neg, zb]
    · simp [h, hc, nI_pos' (show p < 2 ^ 31 by omega), nI_ne4 (show p < 2 ^ 31 by omega), zb]
  · simp [h, zb]
theorem m_isMet (w : aW) (y : aY) {κ : aK} (hW : WF κ) {p b : Nat} (hp : p < 5) (hb : b < κ.1) : f_X4_isMet 50 (nI p) (nI b) (putY w κ y) = some (zb (metB κ (κ.2.2 6 p) b), putY w κ y) := by
  have hk := hW.1
  unfold f_X4_isMet metB
  simp only [gI_Y0, gR_Y1, gR_Y2, gR_Y3, gR_Y4, gR_Y5, gI_Y6, gR_Y7, gR_Y8, gR_Y9, gR_Y10, gI_Y11, gI_Y12, gR_Y13, gR_Y14, gR_Y15, gR_Y16, gR_Y17, gR_Y18, gI_Y19, gI_Y20, gI_Y21, gI_Y22, gI_Y23, gR_Y24, gR_Y25, gR_Y26, gR_Y27, gR_Y28, gI_Y29, gI_Y30, gI_Y31, gR_Y33, gR_Y34, gI_Y35, gR_Y36, cV_Y, bk_some, bind_some', zb_0, zb_1, zb_or, cc_or, kset_1, kset_21, kint_1, kint_21, kint_22, putY_moved, m_isFree w y hW hb, gA_Y53 w y hk hb, gA_Y57 w κ y hp, if_true, if_false, not_true_eq_false, not_false_eq_true, Bool.false_eq_true, Bool.true_eq_false, reduceIte, ite_true, ite_false]
  by_cases h : bitB (κ.2.1 1) (nI b) = true
  · by_cases h2 : κ.2.2 4 b = -4
    · by_cases h3 : κ.2.2 2 b = κ.2.2 6 p <;> simp [h, h2, h3, zb]
    · simp [h, h2, zb]
  · simp [h, zb]
theorem kset_self (κ : aK) (k i : Nat) : kset κ k i (κ.2.2 k i) = κ := by
  unfold kset karr
  have : (fun k' => if k' = k then upd (κ.2.2 k) i (κ.2.2 k i) else κ.2.2 k') = κ.2.2 := by
    funext k' z
    by_cases h : k' = k
    · subst h
      unfold upd
      by_cases h2 : z = i <;> simp [h2]
    · simp [h]
  rw [this]
theorem m_goes (w : aW) (y : aY) {κ : aK} (hW : WF κ) {b : Nat} (hb : b < κ.1) : f_X4_goes 50 (nI b) (putY w κ y) = some ((), putY w (goTowK κ b (wantsK κ b (κ.2.1 0))) y) := by
  have hk := hW.1
  unfold f_X4_goes goTowK
  simp only [gI_Y0, gR_Y1, gR_Y2, gR_Y3, gR_Y4, gR_Y5, gI_Y6, gR_Y7, gR_Y8, gR_Y9, gR_Y10, gI_Y11, gI_Y12, gR_Y13, gR_Y14, gR_Y15, gR_Y16, gR_Y17, gR_Y18, gI_Y19, gI_Y20, gI_Y21, gI_Y22, gI_Y23, gR_Y24, gR_Y25, gR_Y26, gR_Y27, gR_Y28, gI_Y29, gI_Y30, gI_Y31, gR_Y33, gR_Y34, gI_Y35, gR_Y36, cV_Y, bk_some, bind_some', zb_0, zb_1, zb_or, cc_or, kset_1, kset_21, kint_1, kint_21, kint_22, putY_moved, m_wantsOf w y hW hb, gA_Y53 w y hk hb, sA_Y53 w y hk hb, if_true, if_false, not_true_eq_false, not_false_eq_true, Bool.false_eq_true, Bool.true_eq_false, reduceIte, ite_true, ite_false]
  rcases wants_rng hW (show b < 9 by omega) (κ.2.1 0) with h | ⟨x, hx, h⟩
  · rw [h]
    simp [m4_lt]
  · rw [h]
    rw [if_neg (nI_nlt0 (by omega)), if_neg (nI_ne4 (by omega))]
    by_cases h2 : nI x = κ.2.2 2 b
    · rw [if_pos (by rw [h2]; exact Int32.le_refl _), if_pos (by rw [h2]; exact Int32.le_refl _), if_pos h2, Int32.add_zero, kset_self]
    · rw [if_neg h2]
      by_cases h3 : nI x ≤ κ.2.2 2 b
      · have h4 : ¬ κ.2.2 2 b ≤ nI x := fun z => h2 (Int32.le_antisymm h3 z)
        rw [if_pos h3, if_neg h4, if_pos h3, putY_moved]
      · rw [if_neg h3, if_neg h3, putY_moved]
def fndF (Q : Nat → Bool) (b : Nat) (o : Option Nat) : Option Nat := if Q b = true then (match o with | none => some b | some a => some a) else o
theorem fnd_itr (Q : Nat → Bool) : ∀ (m a : Nat) (o : Option Nat), itr (fndF Q) a m o = (match o with | some x => some x | none => fndK Q a m)
  | 0, a, none => rfl
  | 0, a, some x => rfl
  | m + 1, a, none => by
    show itr (fndF Q) (a + 1) m (fndF Q a none) = fndK Q a (m + 1)
    rw [fnd_itr Q m (a + 1), fnd_s]
    unfold fndF
    by_cases h : Q a = true <;> simp [h]
  | m + 1, a, some x => by
    show itr (fndF Q) (a + 1) m (fndF Q a (some x)) = some x
    rw [fnd_itr Q m (a + 1)]
    unfold fndF
    by_cases h : Q a = true <;> simp [h]
def oI (o : Option Nat) : Int32 := match o with
  | none => -1
  | some i => nI i
def bestF (κ : aK) (Q : Nat → Bool) (b : Nat) (o : Option Nat) : Option Nat := match o with
  | none => if (Q b && !decide (workK κ b ≤ 3)) = true then some b else none
  | some a => if (Q b && !decide (workK κ b ≤ workK κ a)) = true then some b else some a
def mostW (κ : aK) (o : Option Nat) : Int32 := match o with
  | none => 3
  | some i => workK κ i
theorem best_str (κ : aK) (Q : Nat → Bool) : ∀ (m a : Nat) (o : Option Nat), itr (strF κ Q) a m (mostW κ o, o) = (mostW κ (itr (bestF κ Q) a m o), itr (bestF κ Q) a m o)
  | 0, a, o => rfl
  | m + 1, a, o => by
    show itr (strF κ Q) (a + 1) m (strF κ Q a _) = _
    have e : strF κ Q a (mostW κ o, o) = (mostW κ (bestF κ Q a o), bestF κ Q a o) := by
      cases o with
      | none =>
        unfold strF bestF
        show (if (Q a && !decide (workK κ a ≤ 3)) = true then _ else _) = _
        by_cases h : (Q a && !decide (workK κ a ≤ 3)) = true
        · simp only [h, if_true]; rfl
        · simp only [h, if_false, Bool.false_eq_true]
      | some i =>
        unfold strF bestF
        show (if (Q a && !decide (workK κ a ≤ workK κ i)) = true then _ else _) = _
        by_cases h : (Q a && !decide (workK κ a ≤ workK κ i)) = true
        · simp only [h, if_true]; rfl
        · simp only [h, if_false, Bool.false_eq_true]
    rw [e, best_str κ Q m (a + 1) (bestF κ Q a o)]
    rfl
theorem and_not {a : Bool} {c : Prop} [Decidable c] (h : (a && !decide c) = true) : a = true ∧ ¬ c := by
  rw [Bool.and_eq_true] at h
  exact ⟨h.1, by have := h.2; simp only [Bool.not_eq_true', decide_eq_false_iff_not] at this; exact this⟩
/-- a loop over nine is one over the many -/
theorem itr_many {σ : Type} {F : Nat → σ → σ} {n : Nat} (hn : n ≤ 9) (s : σ) (h : ∀ i, n ≤ i → i < 9 → F i (itr F 0 n s) = itr F 0 n s) : itr F 0 9 s = itr F 0 n s := by
  rw [show 9 = n + (9 - n) by omega, itr_add, Nat.zero_add]
  exact itr_same _ _ _ (fun i h1 h2 => h i h1 (by omega))
theorem fnd_many {Q : Nat → Bool} {n : Nat} (hn : n ≤ 9) (h : ∀ i, n ≤ i → i < 9 → Q i = false) : fndK Q 0 9 = fndK Q 0 n := by
  have e1 : itr (fndF Q) 0 9 none = fndK Q 0 9 := fnd_itr Q 9 0 none
  have e2 : itr (fndF Q) 0 n none = fndK Q 0 n := fnd_itr Q n 0 none
  rw [← e1, ← e2]
  refine itr_many hn _ (fun i h1 h2 => ?_)
  unfold fndF
  rw [h i h1 h2]
  rfl
theorem met_out {κ : aK} (hW : WF κ) (x : Int32) {i : Nat} (h1 : κ.1 ≤ i) (h2 : i < 9) : metB κ x i = false := by
  unfold metB
  rw [(hW.2.2.2.2 i h1 h2).2]
  rfl
theorem three_four {κ : aK} (hW : WF κ) {b : Nat} (hb : b < 9) : (workK κ b < 4) = (workK κ b ≤ 3) := by
  obtain ⟨⟨s, hs, es⟩, ⟨f, hf, ef⟩, -⟩ := hW.2.1 b hb
  obtain ⟨v, hv, ev⟩ := workI_rng hs hf
  unfold workK
  rw [es, ef, ev]
  apply propext
  rw [show (4 : Int32) = nI 4 from rfl, show (3 : Int32) = nI 3 from rfl, nI_ltI (by omega) (by omega), nI_leI (by omega) (by omega)]
  omega
theorem le_nIb {a b : Nat} (ha : a < 2 ^ 31) (hb : b < 2 ^ 31) (h : b < a) : ¬ nI a ≤ nI b := fun z => by
  rw [nI_leI ha hb] at z
  omega
theorem m1_lt : (-1 : Int32) < 0 := by decide
theorem m1_nle : ¬ (0 : Int32) ≤ -1 := by decide
set_option maxHeartbeats 2000000 in
theorem m_speaks (w : aW) (y : aY) {κ : aK} (hW : WF κ) {p : Nat} (hp : p < 5) : f_X4_speaks 50 (nI p) (putY w κ y) = some ((), putY w (speakK κ p) y) := by
  have hk := hW.1
  obtain ⟨t, ht, et⟩ := (hW.2.2.1 p hp).2.2.1
  unfold f_X4_speaks
  have hfin : ∀ (κ' : aK) (o : Option Nat), κ'.1 = κ.1 → (∀ i, o = some i → i < κ.1) → ∀ k, c_X4_speaks_4 50 (nI p) k (oI o) (nI κ.1) (putY w κ' y) = some ((), putY w (optS κ' o (nI p)) y) := by
    intro κ' o e ho k
    simp only [c_X4_speaks_4, gI_Y0, gR_Y1, gR_Y2, gR_Y3, gR_Y4, gR_Y5, gI_Y6, gR_Y7, gR_Y8, gR_Y9, gR_Y10, gI_Y11, gI_Y12, gR_Y13, gR_Y14, gR_Y15, gR_Y16, gR_Y17, gR_Y18, gI_Y19, gI_Y20, gI_Y21, gI_Y22, gI_Y23, gR_Y24, gR_Y25, gR_Y26, gR_Y27, gR_Y28, gI_Y29, gI_Y30, gI_Y31, gR_Y33, gR_Y34, gI_Y35, gR_Y36, cV_Y, bk_some, bind_some', zb_0, zb_1, zb_or, cc_or, kset_1, kset_21, kint_1, kint_21, kint_22, putY_moved, e, Int32.le_refl, if_true, if_false, not_true_eq_false, not_false_eq_true, Bool.false_eq_true, Bool.true_eq_false, reduceIte, ite_true, ite_false]
    cases o with
    | none => simp only [oI, m1_lt, if_true, if_false, not_true_eq_false, not_false_eq_true, Bool.false_eq_true, Bool.true_eq_false, reduceIte, ite_true, ite_false]; rfl
    | some i =>
      have hi := ho i rfl
      simp only [oI, nI_nlt0 (show i < 2 ^ 31 by omega), sA_Y55 w y (show κ'.1 ≤ 9 by omega) (show i < κ'.1 by omega), gI_Y0, gR_Y1, gR_Y2, gR_Y3, gR_Y4, gR_Y5, gI_Y6, gR_Y7, gR_Y8, gR_Y9, gR_Y10, gI_Y11, gI_Y12, gR_Y13, gR_Y14, gR_Y15, gR_Y16, gR_Y17, gR_Y18, gI_Y19, gI_Y20, gI_Y21, gI_Y22, gI_Y23, gR_Y24, gR_Y25, gR_Y26, gR_Y27, gR_Y28, gI_Y29, gI_Y30, gI_Y31, gR_Y33, gR_Y34, gI_Y35, gR_Y36, cV_Y, bk_some, bind_some', zb_0, zb_1, zb_or, cc_or, kset_1, kset_21, kint_1, kint_21, kint_22, putY_moved, if_true, if_false, not_true_eq_false, not_false_eq_true, Bool.false_eq_true, Bool.true_eq_false, reduceIte, ite_true, ite_false]
      rfl
  have hne : ∀ i, i < κ.1 → ¬ nI κ.1 ≤ nI i := fun i hi => le_nIb (by omega) (by omega) hi
  rcases (show t = 0 ∨ t = 1 ∨ t = 2 ∨ t = 3 by omega) with rfl | rfl | rfl | rfl
  · -- silent
    have e0 : κ.2.2 7 p = 0 := et
    have := for3 (fun _ : Unit => oI none) (fun _ => putY w κ y) (c_X4_speaks_4 50 (nI p)) κ.1 (fun _ s => s) (fun _ => some ((), putY w κ y)) (fun _ _ => True)
      (fun k i s hi _ => by
        simp only [c_X4_speaks_4, gI_Y0, gR_Y1, gR_Y2, gR_Y3, gR_Y4, gR_Y5, gI_Y6, gR_Y7, gR_Y8, gR_Y9, gR_Y10, gI_Y11, gI_Y12, gR_Y13, gR_Y14, gR_Y15, gR_Y16, gR_Y17, gR_Y18, gI_Y19, gI_Y20, gI_Y21, gI_Y22, gI_Y23, gR_Y24, gR_Y25, gR_Y26, gR_Y27, gR_Y28, gI_Y29, gI_Y30, gI_Y31, gR_Y33, gR_Y34, gI_Y35, gR_Y36, cV_Y, bk_some, bind_some', zb_0, zb_1, zb_or, cc_or, kset_1, kset_21, kint_1, kint_21, kint_22, putY_moved, hne i hi, m_isMet w y hW hp hi, gA_Y58 w κ y hp, e0, show ¬ (0 : Int32) = 1 from by decide, show ¬ (0 : Int32) = 2 from by decide, show ¬ (0 : Int32) = 3 from by decide, if_true, if_false, not_true_eq_false, not_false_eq_true, Bool.false_eq_true, Bool.true_eq_false, reduceIte, ite_true, ite_false, nI_1])
      (fun _ _ _ _ => trivial) (fun k s _ => hfin κ none rfl (fun i h => by cases h) k) κ.1 0 () a_fuel (by omega) (by show κ.1 < 1000; omega) trivial
    refine Eq.trans this ?_
    unfold speakK
    rw [if_pos e0]
  · -- kind
    have e1 : κ.2.2 7 p = 1 := et
    have := for3 (fun o : Option Nat => oI o) (fun _ => putY w κ y) (c_X4_speaks_4 50 (nI p)) κ.1 (fndF (fun i => metB κ (κ.2.2 6 p) i && !decide (κ.2.2 3 i < 5))) (fun o => some ((), putY w (optS κ o (nI p)) y)) (fun _ o => ∀ i, o = some i → i < κ.1)
      (fun k i o hi ho => by
        simp only [c_X4_speaks_4, gI_Y0, gR_Y1, gR_Y2, gR_Y3, gR_Y4, gR_Y5, gI_Y6, gR_Y7, gR_Y8, gR_Y9, gR_Y10, gI_Y11, gI_Y12, gR_Y13, gR_Y14, gR_Y15, gR_Y16, gR_Y17, gR_Y18, gI_Y19, gI_Y20, gI_Y21, gI_Y22, gI_Y23, gR_Y24, gR_Y25, gR_Y26, gR_Y27, gR_Y28, gI_Y29, gI_Y30, gI_Y31, gR_Y33, gR_Y34, gI_Y35, gR_Y36, cV_Y, bk_some, bind_some', zb_0, zb_1, zb_or, cc_or, kset_1, kset_21, kint_1, kint_21, kint_22, putY_moved, hne i hi, m_isMet w y hW hp hi, gA_Y58 w κ y hp, gA_Y54 w y hk hi, e1, if_true, if_false, not_true_eq_false, not_false_eq_true, Bool.false_eq_true, Bool.true_eq_false, reduceIte, ite_true, ite_false, nI_1]
        unfold fndF
        by_cases h1 : metB κ (κ.2.2 6 p) i = true
        · by_cases h2 : κ.2.2 3 i < 5
          · simp [h1, h2]
          · cases o with
            | none => simp [h1, h2, oI, m1_nle]
            | some a => simp [h1, h2, oI, nI_pos' (show a < 2 ^ 31 by have := ho a rfl; omega)]
        · simp [h1])
      (fun i o hi ho => by
        unfold fndF
        intro a ha
        split at ha
        · cases o with
          | none => cases ha; exact hi
          | some c => exact ho a ha
        · exact ho a ha)
      (fun k o ho => hfin κ o rfl ho k) κ.1 0 none a_fuel (by omega) (by show κ.1 < 1000; omega) (fun i h => by cases h)
    refine Eq.trans this ?_
    rw [fnd_itr, ← fnd_many hk (fun i h1 h2 => by rw [met_out hW _ h1 h2]; rfl)]
    unfold speakK
    simp only [e1, show ¬ (1 : Int32) = 0 from by decide, if_true, if_false, not_true_eq_false, not_false_eq_true, Bool.false_eq_true, Bool.true_eq_false, reduceIte, ite_true, ite_false]
  · -- proud
    have e2 : κ.2.2 7 p = 2 := et
    have := for3 (fun o : Option Nat => oI o) (fun _ => putY w κ y) (c_X4_speaks_4 50 (nI p)) κ.1 (bestF κ (metB κ (κ.2.2 6 p))) (fun o => some ((), putY w (optS κ o (nI p)) y)) (fun _ o => ∀ i, o = some i → i < κ.1 ∧ ¬ workK κ i ≤ 3)
      (fun k i o hi ho => by
        simp only [c_X4_speaks_4, gI_Y0, gR_Y1, gR_Y2, gR_Y3, gR_Y4, gR_Y5, gI_Y6, gR_Y7, gR_Y8, gR_Y9, gR_Y10, gI_Y11, gI_Y12, gR_Y13, gR_Y14, gR_Y15, gR_Y16, gR_Y17, gR_Y18, gI_Y19, gI_Y20, gI_Y21, gI_Y22, gI_Y23, gR_Y24, gR_Y25, gR_Y26, gR_Y27, gR_Y28, gI_Y29, gI_Y30, gI_Y31, gR_Y33, gR_Y34, gI_Y35, gR_Y36, cV_Y, bk_some, bind_some', zb_0, zb_1, zb_or, cc_or, kset_1, kset_21, kint_1, kint_21, kint_22, putY_moved, hne i hi, m_isMet w y hW hp hi, gA_Y58 w κ y hp, m_workOf w y hW hi, e2, show ¬ (2 : Int32) = 1 from by decide, three_four hW (show i < 9 by omega), if_true, if_false, not_true_eq_false, not_false_eq_true, Bool.false_eq_true, Bool.true_eq_false, reduceIte, ite_true, ite_false, nI_1]
        unfold bestF
        by_cases h1 : metB κ (κ.2.2 6 p) i = true
        · cases o with
          | none =>
            by_cases h2 : workK κ i ≤ 3
            · simp [h1, h2]
            · simp [h1, h2, oI, m1_lt]
          | some a =>
            obtain ⟨ha, hb⟩ := ho a rfl
            by_cases h2 : workK κ i ≤ 3
            · have h3 : workK κ i ≤ workK κ a := Int32.le_trans h2 (Int32.le_of_lt (Int32.not_le.mp hb))
              simp [h1, h2, h3]
            · simp only [oI, nI_nlt0 (show a < 2 ^ 31 by omega), m_workOf w y hW ha, gI_Y0, gR_Y1, gR_Y2, gR_Y3, gR_Y4, gR_Y5, gI_Y6, gR_Y7, gR_Y8, gR_Y9, gR_Y10, gI_Y11, gI_Y12, gR_Y13, gR_Y14, gR_Y15, gR_Y16, gR_Y17, gR_Y18, gI_Y19, gI_Y20, gI_Y21, gI_Y22, gI_Y23, gR_Y24, gR_Y25, gR_Y26, gR_Y27, gR_Y28, gI_Y29, gI_Y30, gI_Y31, gR_Y33, gR_Y34, gI_Y35, gR_Y36, cV_Y, bk_some, bind_some', zb_0, zb_1, zb_or, cc_or, kset_1, kset_21, kint_1, kint_21, kint_22, putY_moved, h1, h2, if_true, if_false, not_true_eq_false, not_false_eq_true, Bool.false_eq_true, Bool.true_eq_false, reduceIte, ite_true, ite_false, Bool.true_and]
              by_cases h3 : workK κ i ≤ workK κ a <;> simp [h3, oI]
        · cases o <;> simp [h1])
      (fun i o hi ho => by
        unfold bestF
        intro a ha
        cases o with
        | none =>
          dsimp only at ha
          split at ha
          · next h => cases ha; exact ⟨hi, (and_not h).2⟩
          · cases ha
        | some c =>
          dsimp only at ha
          obtain ⟨hc1, hc2⟩ := ho c rfl
          split at ha
          · next h =>
            cases ha
            refine ⟨hi, fun z => ?_⟩
            have h4 : ¬ workK κ i ≤ workK κ c := (and_not h).2
            exact h4 (Int32.le_trans z (Int32.le_of_lt (Int32.not_le.mp hc2)))
          · cases ha; exact ⟨hc1, hc2⟩)
      (fun k o ho => hfin κ o rfl (fun i h => (ho i h).1) k) κ.1 0 none a_fuel (by omega) (by show κ.1 < 1000; omega) (fun i h => by cases h)
    refine Eq.trans this ?_
    have e3 : (itr (strF κ (metB κ (κ.2.2 6 p))) 0 9 (3, none)).2 = itr (bestF κ (metB κ (κ.2.2 6 p))) 0 κ.1 none := by
      have hb : itr (strF κ (metB κ (κ.2.2 6 p))) 0 9 (3, none) = _ := best_str κ (metB κ (κ.2.2 6 p)) 9 0 none
      rw [hb]
      show itr (bestF κ (metB κ (κ.2.2 6 p))) 0 9 none = _
      refine itr_many hk _ (fun i h1 h2 => ?_)
      unfold bestF
      rw [met_out hW _ h1 h2]
      split <;> simp_all
    rw [← e3]
    unfold speakK
    simp only [e2, show ¬ (2 : Int32) = 0 from by decide, show ¬ (2 : Int32) = 1 from by decide, if_true, if_false, not_true_eq_false, not_false_eq_true, Bool.false_eq_true, Bool.true_eq_false, reduceIte, ite_true, ite_false]
  · -- poet
    have e3 : κ.2.2 7 p = 3 := et
    have := for3 (fun _ : aK => oI none) (fun κ' => putY w κ' y) (c_X4_speaks_4 50 (nI p)) κ.1 (giveF (metB κ (κ.2.2 6 p)) (nI p)) (fun κ' => some ((), putY w κ' y)) (fun i κ' => WF κ' ∧ κ'.1 = κ.1 ∧ κ'.2.2 7 = κ.2.2 7 ∧ κ'.2.2 6 = κ.2.2 6 ∧ ∀ z, i ≤ z → metB κ' (κ.2.2 6 p) z = metB κ (κ.2.2 6 p) z)
      (fun k i κ' hi h => by
        obtain ⟨h1, h2, h3, h4, h5⟩ := h
        have hi' : i < κ'.1 := by omega
        simp only [c_X4_speaks_4, gI_Y0, gR_Y1, gR_Y2, gR_Y3, gR_Y4, gR_Y5, gI_Y6, gR_Y7, gR_Y8, gR_Y9, gR_Y10, gI_Y11, gI_Y12, gR_Y13, gR_Y14, gR_Y15, gR_Y16, gR_Y17, gR_Y18, gI_Y19, gI_Y20, gI_Y21, gI_Y22, gI_Y23, gR_Y24, gR_Y25, gR_Y26, gR_Y27, gR_Y28, gI_Y29, gI_Y30, gI_Y31, gR_Y33, gR_Y34, gI_Y35, gR_Y36, cV_Y, bk_some, bind_some', zb_0, zb_1, zb_or, cc_or, kset_1, kset_21, kint_1, kint_21, kint_22, putY_moved, h2, hne i hi, m_isMet w y h1 hp hi', gA_Y58 w κ' y hp, h3, h4, h5 i (Nat.le_refl _), e3, show ¬ (3 : Int32) = 1 from by decide, show ¬ (3 : Int32) = 2 from by decide, sA_Y55 w y h1.1 hi', if_true, if_false, not_true_eq_false, not_false_eq_true, Bool.false_eq_true, Bool.true_eq_false, reduceIte, ite_true, ite_false, nI_1]
        unfold giveF
        by_cases hm : metB κ (κ.2.2 6 p) i = true <;> simp [hm])
      (fun i κ' hi h => by
        obtain ⟨h1, h2, h3, h4, h5⟩ := h
        unfold giveF
        split
        · next hm =>
          refine ⟨h1.caller (Or.inr ⟨by omega, p, hp, rfl⟩), h2, ?_, ?_, fun z hz => ?_⟩
          · rw [← h3]; funext q; rw [kset_22]; simp
          · rw [← h4]; funext q; rw [kset_22]; simp
          · rw [← h5 z (by omega)]
            unfold metB
            rw [kset_21, kset_22, kset_22]
            have : z ≠ i := by omega
            simp [this]
        · exact ⟨h1, h2, h3, h4, fun z hz => h5 z (by omega)⟩)
      (fun k κ' h => by
        rw [← h.2.1]
        have := hfin κ' none h.2.1 (fun i h => by cases h) k
        rw [← h.2.1] at this
        exact this) κ.1 0 κ a_fuel (by omega) (by show κ.1 < 1000; omega) ⟨hW, rfl, rfl, rfl, fun _ _ => rfl⟩
    refine Eq.trans this ?_
    unfold speakK
    simp only [e3, show ¬ (3 : Int32) = 0 from by decide, show ¬ (3 : Int32) = 1 from by decide, show ¬ (3 : Int32) = 2 from by decide, if_true, if_false, not_true_eq_false, not_false_eq_true, Bool.false_eq_true, Bool.true_eq_false, reduceIte, ite_true, ite_false]
    unfold giveK
    rw [itr_many hk]
    intro i h1 h2
    unfold giveF
    rw [met_out hW _ h1 h2]
    rfl
