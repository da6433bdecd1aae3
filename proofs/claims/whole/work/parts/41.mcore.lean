/-! PURE: the model's day is the same day -/
theorem p_far (x y : Int32) (w : aW) : f_X4_far x y w = some (if y ≤ x then x - y else y - x, w) := by
  unfold f_X4_far
  split <;> rfl
theorem p_hasBit (m i : Int32) (w : aW) : f_X4_hasBit m i w = some (zb (bitB m i), w) := by
  unfold f_X4_hasBit bitB zb
  by_cases h : (m >>> (i &&& 31)) &&& 1 = 1 <;> simp [h]
def heldI (x c : Int32) : Int32 := if 0 ≤ x then (if x ≤ c then x else c) else 0
theorem p_held (x c : Int32) (w : aW) : f_X4_held x c w = some (heldI x c, w) := by
  unfold f_X4_held heldI
  split
  · split <;> rfl
  · rfl
theorem held_min {a c : Nat} (ha : a < 2 ^ 31) (hc : c < 2 ^ 31) : heldI (nI a) (nI c) = minI (nI a) (nI c) := by
  rw [minI_nI ha hc]
  unfold heldI
  rw [if_pos (nI_pos' ha)]
  by_cases h : a ≤ c
  · rw [if_pos ((nI_leI ha hc).mpr h), Nat.min_eq_left h]
  · rw [if_neg (fun z => h ((nI_leI ha hc).mp z)), Nat.min_eq_right (by omega)]
theorem cmp_lt (x y : Int64) : lg_cmp x y < 0 ↔ x < y := by
  unfold lg_cmp
  by_cases h1 : x > y
  · rw [if_pos h1]
    refine ⟨fun h => absurd h (by decide), fun h => ?_⟩
    rw [gt_iff_lt, Int64.lt_iff_toInt_lt] at h1
    rw [Int64.lt_iff_toInt_lt] at h
    omega
  · rw [if_neg h1]
    by_cases h2 : x = y
    · rw [if_pos h2]
      refine ⟨fun h => absurd h (by decide), fun h => ?_⟩
      rw [h2, Int64.lt_iff_toInt_lt] at h
      omega
    · rw [if_neg h2]
      refine ⟨fun _ => ?_, fun _ => by decide⟩
      rw [gt_iff_lt, Int64.lt_iff_toInt_lt] at h1
      rw [Int64.lt_iff_toInt_lt]
      have : x.toInt ≠ y.toInt := fun h => h2 (Int64.toInt_inj.mp h)
      omega
theorem cmp_gt (x y : Int64) : 0 < lg_cmp x y ↔ y < x := by
  unfold lg_cmp
  by_cases h1 : x > y
  · rw [if_pos h1]
    exact ⟨fun _ => h1, fun _ => by decide⟩
  · rw [if_neg h1]
    refine ⟨fun h => ?_, fun h => absurd h h1⟩
    by_cases h2 : x = y
    · rw [if_pos h2] at h; exact absurd h (by decide)
    · rw [if_neg h2] at h; exact absurd h (by decide)
theorem cmp_eq (x y : Int64) : lg_cmp x y = 0 ↔ x = y := by
  unfold lg_cmp
  by_cases h1 : x > y
  · rw [if_pos h1]
    refine ⟨fun h => absurd h (by decide), fun h => ?_⟩
    rw [h, gt_iff_lt, Int64.lt_iff_toInt_lt] at h1
    omega
  · rw [if_neg h1]
    by_cases h2 : x = y
    · rw [if_pos h2]; exact ⟨fun _ => h2, fun _ => rfl⟩
    · rw [if_neg h2]; exact ⟨fun h => absurd h (by decide), fun h => absurd h h2⟩
theorem p_in (x a b : Int64) (w : aW) : f_X4_in x a b w = some (zb (decide (a ≤ x) && decide (x ≤ b)), w) := by
  unfold f_X4_in zb
  simp only [cmp_lt, cmp_gt]
  by_cases h1 : x < a
  · have : ¬ a ≤ x := Int64.not_le.mpr h1
    simp [h1, this]
  · by_cases h2 : b < x
    · have : ¬ x ≤ b := Int64.not_le.mpr h2
      simp [h1, h2, this]
    · have h3 := Int64.not_lt.mp h1
      have h4 := Int64.not_lt.mp h2
      simp [h1, h2, h3, h4]
theorem p_in32 {x a b : Int32} {a' b' : Int64} (ha : a'.toInt = a.toInt) (hb : b'.toInt = b.toInt) (w : aW) : f_X4_in x.toInt64 a' b' w = some (zb (inR x a b), w) := by
  rw [p_in]
  unfold inR
  have e1 : decide (a' ≤ x.toInt64) = decide (a ≤ x) := decide_eq_decide.mpr (by rw [Int64.le_iff_toInt_le, Int32.le_iff_toInt_le, Int32.toInt_toInt64, ha])
  have e2 : decide (x.toInt64 ≤ b') = decide (x ≤ b) := decide_eq_decide.mpr (by rw [Int64.le_iff_toInt_le, Int32.le_iff_toInt_le, Int32.toInt_toInt64, hb])
  rw [e1, e2]
theorem m_isPlace (x : Int32) (w : aW) : f_X4_isPlace x w = some (zb (inR x 0 15), w) := by
  unfold f_X4_isPlace
  simp only [p_in32 (x := x) (a := 0) (b := 15) (a' := 0) (b' := 15) rfl rfl, bk_some, zb_0, zb_1, cc_or, if_true, if_false, not_true_eq_false, not_false_eq_true, Bool.false_eq_true, Bool.true_eq_false, reduceIte, ite_true, ite_false]
theorem m_isPerson (x : Int32) (w : aW) : f_X4_isPerson x w = some (zb (inR x 0 4), w) := by
  unfold f_X4_isPerson
  simp only [p_in32 (x := x) (a := 0) (b := 4) (a' := 0) (b' := 4) rfl rfl, bk_some, zb_0, zb_1, cc_or, if_true, if_false, not_true_eq_false, not_false_eq_true, Bool.false_eq_true, Bool.true_eq_false, reduceIte, ite_true, ite_false]
theorem m_isBeast (w : aW) (κ : aK) (y : aY) (x : Int32) : f_X4_isBeast 50 x (putY w κ y) = some (zb (inR x 0 (nI κ.1 - 1)), putY w κ y) := by
  unfold f_X4_isBeast
  simp only [gI_Y0, gR_Y1, gR_Y2, gR_Y3, gR_Y4, gR_Y5, gI_Y6, gR_Y7, gR_Y8, gR_Y9, gR_Y10, gI_Y11, gI_Y12, gR_Y13, gR_Y14, gR_Y15, gR_Y16, gR_Y17, gR_Y18, gI_Y19, gI_Y20, gI_Y21, gI_Y22, gI_Y23, gR_Y24, gR_Y25, gR_Y26, gR_Y27, gR_Y28, gI_Y29, gI_Y30, gI_Y31, gR_Y33, gR_Y34, gI_Y35, gR_Y36, cV_Y, bk_some, bind_some', zb_0, zb_1, zb_or, cc_or, kset_1, kset_21, kint_1, kint_21, kint_22, putY_moved, p_in32 (x := x) (a := 0) (b := nI κ.1 - 1) (a' := 0) (b' := (nI κ.1 - 1).toInt64) rfl (Int32.toInt_toInt64 _), if_true, if_false, not_true_eq_false, not_false_eq_true, Bool.false_eq_true, Bool.true_eq_false, reduceIte, ite_true, ite_false]
theorem far_abs : ∀ x, x < 16 → ∀ y, y < 16 → (if nI y ≤ nI x then nI x - nI y else nI y - nI x) = absI (nI x - nI y) := by decide +kernel
theorem abs_lt : ∀ x, x < 16 → ∀ y, y < 16 → ¬ (16 : Int32) ≤ absI (nI x - nI y) := by decide +kernel
def amin (f : Nat → Int32) : Nat → Nat
  | 0 => 0
  | n + 1 => if f (amin f n) ≤ f (n + 1) then amin f n else n + 1
theorem amin_le (f : Nat → Int32) : ∀ n, amin f n ≤ n
  | 0 => Nat.le_refl _
  | n + 1 => by
    unfold amin
    split
    · exact Nat.le_succ_of_le (amin_le f n)
    · exact Nat.le_refl _
theorem near_amin {κ : aK} {b : Nat} (h0 : ¬ (16 : Int32) ≤ dI κ 0 b) : nearK κ b = amin (fun p => dI κ p b) 4 := by
  have key : ∀ m i, i + m = 4 → itr (nearF κ b) (i + 1) m (amin (fun p => dI κ p b) i, dI κ (amin (fun p => dI κ p b) i) b) = (amin (fun p => dI κ p b) 4, dI κ (amin (fun p => dI κ p b) 4) b) := by
    intro m
    induction m with
    | zero => intro i hi; have : i = 4 := by omega
              subst this; rfl
    | succ m ih =>
      intro i hi
      show itr (nearF κ b) (i + 1 + 1) m (nearF κ b (i + 1) _) = _
      rw [← ih (i + 1) (by omega)]
      congr 1
      unfold nearF
      by_cases h : dI κ (amin (fun p => dI κ p b) i) b ≤ dI κ (i + 1) b
      · simp only [h, if_true, amin]
      · simp only [h, if_false, amin]
  unfold nearK
  show (itr (nearF κ b) 1 4 (nearF κ b 0 (0, 16))).1 = _
  have e : nearF κ b 0 (0, 16) = (0, dI κ 0 b) := by
    unfold nearF
    rw [if_neg h0]
  rw [e]
  exact congrArg Prod.fst (key 4 0 rfl)
theorem m_nearestOf (w : aW) (y : aY) {κ : aK} (hW : WF κ) {b : Nat} (hb : b < κ.1) : f_X4_nearestOf 50 (nI b) (putY w κ y) = some (nI (nearK κ b), putY w κ y) := by
  have hk := hW.1
  obtain ⟨z, hz, ez⟩ := (hW.2.1 b (by omega)).2.2.1
  have hsp : ∀ p, p < 5 → (if κ.2.2 2 b ≤ κ.2.2 6 p then κ.2.2 6 p - κ.2.2 2 b else κ.2.2 2 b - κ.2.2 6 p) = dI κ p b := by
    intro p hp
    obtain ⟨x, hx, ex⟩ := (hW.2.2.1 p hp).2.1
    unfold dI
    rw [ex, ez]
    exact far_abs x (by omega) z (by omega)
  have h0 : ¬ (16 : Int32) ≤ dI κ 0 b := by
    obtain ⟨x, hx, ex⟩ := (hW.2.2.1 0 (by decide)).2.1
    unfold dI
    rw [ex, ez]
    exact abs_lt x (by omega) z (by omega)
  rw [near_amin h0]
  unfold f_X4_nearestOf
  have := for3 (fun s : Nat => nI s) (fun _ => putY w κ y) (c_X4_nearestOf_4 50 (nI b)) 5 (fun i s => if dI κ s b ≤ dI κ i b then s else i) (fun s => some (nI s, putY w κ y)) (fun i s => s < 5) (fun k i s hi hs => by
      simp only [c_X4_nearestOf_4, le_5 hi, gI_Y0, gR_Y1, gR_Y2, gR_Y3, gR_Y4, gR_Y5, gI_Y6, gR_Y7, gR_Y8, gR_Y9, gR_Y10, gI_Y11, gI_Y12, gR_Y13, gR_Y14, gR_Y15, gR_Y16, gR_Y17, gR_Y18, gI_Y19, gI_Y20, gI_Y21, gI_Y22, gI_Y23, gR_Y24, gR_Y25, gR_Y26, gR_Y27, gR_Y28, gI_Y29, gI_Y30, gI_Y31, gR_Y33, gR_Y34, gI_Y35, gR_Y36, cV_Y, bk_some, bind_some', zb_0, zb_1, zb_or, cc_or, kset_1, kset_21, kint_1, kint_21, kint_22, putY_moved, gA_Y57 w κ y hi, gA_Y57 w κ y hs, gA_Y53 w y hk hb, p_far, hsp i hi, hsp s hs, if_true, if_false, not_true_eq_false, not_false_eq_true, Bool.false_eq_true, Bool.true_eq_false, reduceIte, ite_true, ite_false, nI_1]
      by_cases h : dI κ s b ≤ dI κ i b <;> simp [h])
    (fun i s hi hs => by split <;> assumption) (fun k s _ => by simp only [c_X4_nearestOf_4]; rfl) 4 1 0 a_fuel rfl (by decide) (by decide)
  refine Eq.trans this ?_
  rfl
theorem m_richestOf (w : aW) (κ : aK) (y : aY) : f_X4_richestOf 50 (putY w κ y) = some (nI (richK κ), putY w κ y) := by
  unfold f_X4_richestOf
  refine for3 (fun s : Nat => nI s) (fun _ => putY w κ y) (c_X4_richestOf_4 50) 5 (richF κ) (fun s => some (nI s, putY w κ y)) (fun _ s => s < 5) ?_ ?_ ?_ 4 1 0 a_fuel rfl (by decide) (by decide)
  · intro k i s hi hs
    simp only [c_X4_richestOf_4, le_5 hi, gI_Y0, gR_Y1, gR_Y2, gR_Y3, gR_Y4, gR_Y5, gI_Y6, gR_Y7, gR_Y8, gR_Y9, gR_Y10, gI_Y11, gI_Y12, gR_Y13, gR_Y14, gR_Y15, gR_Y16, gR_Y17, gR_Y18, gI_Y19, gI_Y20, gI_Y21, gI_Y22, gI_Y23, gR_Y24, gR_Y25, gR_Y26, gR_Y27, gR_Y28, gI_Y29, gI_Y30, gI_Y31, gR_Y33, gR_Y34, gI_Y35, gR_Y36, cV_Y, bk_some, bind_some', zb_0, zb_1, zb_or, cc_or, kset_1, kset_21, kint_1, kint_21, kint_22, putY_moved, gA_Y56 w κ y hi, gA_Y56 w κ y hs, if_true, if_false, not_true_eq_false, not_false_eq_true, Bool.false_eq_true, Bool.true_eq_false, reduceIte, ite_true, ite_false, nI_1]
    unfold richF
    split <;> rfl
  · intro i s hi hs
    unfold richF
    split <;> assumption
  · intro k s _
    simp only [c_X4_richestOf_4]
    rfl
theorem need_same : ∀ s, s < 8 → ∀ f, f < 10 → (if nI s = 1 then (1 : Int32) else if nI s = 2 then 2 + nI f else if nI s = 3 then 1 + nI f else if nI s = 4 then 3 else if nI s = 5 then 6 else if nI s = 6 then (1 + nI f) / 2 else if nI s = 7 then 7 else 2) = needI (nI s) (nI f) := by decide +kernel
theorem work_same : ∀ s, s < 8 → ∀ f, f < 10 → (if nI s = 0 then (3 : Int32) else if nI s = 1 then 0 else if nI s = 2 then 2 * nI f else if nI s = 3 then 2 * nI f + 2 else if nI s = 4 then 1 else if nI s = 5 then 0 else if nI s = 6 then 2 * nI f + 1 else 0) = workI (nI s) (nI f) := by decide +kernel
def needK (κ : aK) (b : Nat) : Int32 := needI (κ.2.2 0 b) (κ.2.2 1 b)
def workK (κ : aK) (b : Nat) : Int32 := workI (κ.2.2 0 b) (κ.2.2 1 b)
theorem m_needOf (w : aW) (y : aY) {κ : aK} (hW : WF κ) {b : Nat} (hb : b < κ.1) : f_X4_needOf 50 (nI b) (putY w κ y) = some (needK κ b, putY w κ y) := by
  obtain ⟨⟨s, hs, es⟩, ⟨f, hf, ef⟩, -⟩ := hW.2.1 b (by have := hW.1; omega)
  unfold f_X4_needOf needK
  simp only [gI_Y0, gR_Y1, gR_Y2, gR_Y3, gR_Y4, gR_Y5, gI_Y6, gR_Y7, gR_Y8, gR_Y9, gR_Y10, gI_Y11, gI_Y12, gR_Y13, gR_Y14, gR_Y15, gR_Y16, gR_Y17, gR_Y18, gI_Y19, gI_Y20, gI_Y21, gI_Y22, gI_Y23, gR_Y24, gR_Y25, gR_Y26, gR_Y27, gR_Y28, gI_Y29, gI_Y30, gI_Y31, gR_Y33, gR_Y34, gI_Y35, gR_Y36, cV_Y, bk_some, bind_some', zb_0, zb_1, zb_or, cc_or, kset_1, kset_21, kint_1, kint_21, kint_22, putY_moved, gA_Y51 w y hW.1 hb, gA_Y52 w y hW.1 hb, if_true, if_false, not_true_eq_false, not_false_eq_true, Bool.false_eq_true, Bool.true_eq_false, reduceIte, ite_true, ite_false, es, ef]
  rw [← need_same s (by omega) f (by omega)]
  repeat' split
  all_goals rfl
theorem m_workOf (w : aW) (y : aY) {κ : aK} (hW : WF κ) {b : Nat} (hb : b < κ.1) : f_X4_workOf 50 (nI b) (putY w κ y) = some (workK κ b, putY w κ y) := by
  obtain ⟨⟨s, hs, es⟩, ⟨f, hf, ef⟩, -⟩ := hW.2.1 b (by have := hW.1; omega)
  unfold f_X4_workOf workK
  simp only [gI_Y0, gR_Y1, gR_Y2, gR_Y3, gR_Y4, gR_Y5, gI_Y6, gR_Y7, gR_Y8, gR_Y9, gR_Y10, gI_Y11, gI_Y12, gR_Y13, gR_Y14, gR_Y15, gR_Y16, gR_Y17, gR_Y18, gI_Y19, gI_Y20, gI_Y21, gI_Y22, gI_Y23, gR_Y24, gR_Y25, gR_Y26, gR_Y27, gR_Y28, gI_Y29, gI_Y30, gI_Y31, gR_Y33, gR_Y34, gI_Y35, gR_Y36, cV_Y, bk_some, bind_some', zb_0, zb_1, zb_or, cc_or, kset_1, kset_21, kint_1, kint_21, kint_22, putY_moved, gA_Y51 w y hW.1 hb, gA_Y52 w y hW.1 hb, if_true, if_false, not_true_eq_false, not_false_eq_true, Bool.false_eq_true, Bool.true_eq_false, reduceIte, ite_true, ite_false, es, ef]
  rw [← work_same s (by omega) f (by omega)]
  repeat' split
  all_goals rfl
theorem m4_neg : ¬ (0 : Int32) ≤ -4 := by decide
theorem m4_lt : (-4 : Int32) < 0 := by decide
theorem nI_nlt0 {p : Nat} (hp : p < 2 ^ 31) : ¬ nI p < 0 := nI_pos hp
set_option maxHeartbeats 2000000 in
theorem m_wantsOf (w : aW) (y : aY) {κ : aK} (hW : WF κ) {b : Nat} (hb : b < κ.1) (d : Int32) : f_X4_wantsOf 50 (nI b) d (putY w κ y) = some (wantsK κ b d, putY w κ y) := by
  have hk := hW.1
  obtain ⟨-, ⟨f, hf, ef⟩, -, -, hc⟩ := hW.2.1 b (by omega)
  have hnl := nearK_lt κ b
  have hrl := (p_richest (w := w) (j := 0) (by decide) κ).2
  have h2 : ¬ κ.2.2 1 b + 2 = 0 := by
    rw [ef, show (2 : Int32) = nI 2 from rfl, nI_add]
    exact nI_ne0 (by omega) (by omega)
  unfold f_X4_wantsOf
  simp only [gI_Y0, gR_Y1, gR_Y2, gR_Y3, gR_Y4, gR_Y5, gI_Y6, gR_Y7, gR_Y8, gR_Y9, gR_Y10, gI_Y11, gI_Y12, gR_Y13, gR_Y14, gR_Y15, gR_Y16, gR_Y17, gR_Y18, gI_Y19, gI_Y20, gI_Y21, gI_Y22, gI_Y23, gR_Y24, gR_Y25, gR_Y26, gR_Y27, gR_Y28, gI_Y29, gI_Y30, gI_Y31, gR_Y33, gR_Y34, gI_Y35, gR_Y36, cV_Y, bk_some, bind_some', zb_0, zb_1, zb_or, cc_or, kset_1, kset_21, kint_1, kint_21, kint_22, putY_moved, m_nearestOf w y hW hb, m_richestOf, gA_Y57 w κ y hnl, gA_Y57 w κ y hrl, gA_Y53 w y hk hb, c_X4_wantsOf_38, gA_Y54 w y hk hb, gA_Y51 w y hk hb, gA_Y52 w y hk hb, gA_Y55 w y hk hb, h2, if_true, if_false, not_true_eq_false, not_false_eq_true, Bool.false_eq_true, Bool.true_eq_false, reduceIte, ite_true, ite_false]
  have ha : awayI (κ.2.2 6 (nearK κ b)) (κ.2.2 2 b) = if κ.2.2 2 b < κ.2.2 6 (nearK κ b) then 0 else 15 := rfl
  rcases hc with hc | ⟨p, hp, hc⟩
  · simp only [hc, m4_lt, wantsK, ha, if_true, if_false, not_true_eq_false, not_false_eq_true, Bool.false_eq_true, Bool.true_eq_false, reduceIte, ite_true, ite_false]
    repeat' split
    all_goals rfl
  · have h3 : κ.2.2 6 p = hisSpot κ b := by unfold hisSpot; rw [hc, nI_clamp (by omega)]
    simp only [hc, nI_nlt0 (show p < 2 ^ 31 by omega), gA_Y57 w κ y hp, nI_ne4 (show p < 2 ^ 31 by omega), wantsK, h3, ha, if_true, if_false, not_true_eq_false, not_false_eq_true, Bool.false_eq_true, Bool.true_eq_false, reduceIte, ite_true, ite_false]
    repeat' split
    all_goals rfl
