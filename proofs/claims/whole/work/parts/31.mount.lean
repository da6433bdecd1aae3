/-! PURE: what the Mountain's methods do to one, in numbers: leaves -/
theorem p_within (x a b : Int32) (w : aW) : f_X3_within x a b w = some (zb (inR x a b), w) := by
  unfold f_X3_within inR zb
  by_cases h1 : x < a
  · have : ¬ a ≤ x := Int32.not_le.mpr h1
    simp [h1, this]
  · by_cases h2 : b < x
    · have : ¬ x ≤ b := Int32.not_le.mpr h2
      simp [h1, h2, this]
    · have h3 := Int32.not_lt.mp h1
      have h4 := Int32.not_lt.mp h2
      simp [h1, h2, h3, h4]
theorem p_isPerson (x : Int32) (w : aW) : f_X3_isPerson x w = some (zb (inR x 0 4), w) := by
  unfold f_X3_isPerson
  simp only [p_within, bk_some, zb_or, not_true_eq_false, if_false]
theorem p_isPlace (x : Int32) (w : aW) : f_X3_isPlace x w = some (zb (inR x 0 15), w) := by
  unfold f_X3_isPlace
  simp only [p_within, bk_some, zb_or, not_true_eq_false, if_false]
theorem p_isSort (x : Int32) (w : aW) : f_X3_isSort x w = some (zb (inR x 0 7), w) := by
  unfold f_X3_isSort
  simp only [p_within, bk_some, zb_or, not_true_eq_false, if_false]
theorem p_isFigure (x : Int32) (w : aW) : f_X3_isFigure x w = some (zb (inR x 0 9), w) := by
  unfold f_X3_isFigure
  simp only [p_within, bk_some, zb_or, not_true_eq_false, if_false]
theorem p_has (m i : Int32) (w : aW) : f_X3_has m i w = some (zb (bitB m i), w) := by
  unfold f_X3_has bitB zb
  by_cases h : (m >>> (i &&& 31)) &&& 1 = 1 <;> simp [h]
theorem p_hasBeast {w : aW} {j : Nat} (hj : j + 9 < 75) (κ : aK) (x : Int32) : f_X0_hasBeast j x (putM w j κ) = some (zb (inR x 0 (nI κ.1 - 1)), putM w j κ) := by
  unfold f_X0_hasBeast
  simp only [gI_M0 hj, gI_M1 hj, gI_M2 hj, gI_M3 hj, gR_M4 hj, gR_M5 hj, gR_M6 hj, gR_M7 hj, gR_M8 hj, gR_M9 hj, gR_M10 hj, gR_M11 hj, gR_M12 hj, cV_M hj, bk_some, bind_some', zb_0, zb_1, zb_or, cc_or, kset_1, kset_21, kint_1, kint_21, kint_22, p_within, if_true, if_false, not_true_eq_false, not_false_eq_true, Bool.false_eq_true, Bool.true_eq_false, reduceIte, ite_true, ite_false]
theorem p_isAlive {w : aW} {j : Nat} (hj : j + 9 < 75) (κ : aK) (x : Int32) : f_X0_isAlive j x (putM w j κ) = some (zb (bitB (κ.2.1 1) x), putM w j κ) := by
  unfold f_X0_isAlive
  simp only [gI_M0 hj, gI_M1 hj, gI_M2 hj, gI_M3 hj, gR_M4 hj, gR_M5 hj, gR_M6 hj, gR_M7 hj, gR_M8 hj, gR_M9 hj, gR_M10 hj, gR_M11 hj, gR_M12 hj, cV_M hj, bk_some, bind_some', zb_0, zb_1, zb_or, cc_or, kset_1, kset_21, kint_1, kint_21, kint_22]
  unfold bitB zb
  by_cases h : ((κ.2.1 1) >>> (x &&& 31)) &&& 1 = 1 <;> simp [h]
def needI (s f : Int32) : Int32 := if s = 1 then 1 else if s = 2 then 2 + f else if s = 3 then 2 + f - 1 else if s = 4 then 3 else if s = 5 then 6 else if s = 6 then (2 + f - 1) / 2 else if s = 7 then 7 else 2
def workI (s f : Int32) : Int32 := if s = 0 then 3 else if s = 2 then 2 * f else if s = 3 then 2 * f + 2 else if s = 4 then 1 else if s = 6 then 2 * f + 2 - 1 else 0
def costI (s f : Int32) : Int32 := if s = 1 then 1 else if s = 2 then f + 3 else if s = 3 then 2 * (f + 3) else if s = 4 then 5 else if s = 5 then 0 else if s = 6 then 2 * (f + 3) else if s = 7 then 1 else f
theorem p_needOf (s f : Int32) (w : aW) : f_X2_needOf s f w = some (needI s f, w) := by
  unfold f_X2_needOf needI
  repeat' split
  all_goals rfl
theorem p_workOf (s f : Int32) (w : aW) : f_X2_workOf s f w = some (workI s f, w) := by
  unfold f_X2_workOf workI
  by_cases h0 : s = 0
  · subst h0; rfl
  by_cases h1 : s = 1
  · subst h1; rfl
  by_cases h2 : s = 2
  · subst h2; rfl
  by_cases h3 : s = 3
  · subst h3; rfl
  by_cases h4 : s = 4
  · subst h4; rfl
  by_cases h5 : s = 5
  · subst h5; rfl
  by_cases h6 : s = 6
  · subst h6; rfl
  simp only [h0, h1, h2, h3, h4, h5, h6, if_false]
theorem p_costOf (s f : Int32) (w : aW) : f_X2_costOf s f w = some (costI s f, w) := by
  unfold f_X2_costOf costI
  repeat' split
  all_goals rfl
def absI (x : Int32) : Int32 := if 0 ≤ x then x else 0 - x
def dI (κ : aK) (p b : Nat) : Int32 := absI (κ.2.2 6 p - κ.2.2 2 b)
def nearF (κ : aK) (b i : Nat) (s : Nat × Int32) : Nat × Int32 := if s.2 ≤ dI κ i b then s else (i, dI κ i b)
def nearK (κ : aK) (b : Nat) : Nat := (itr (nearF κ b) 0 5 (0, 16)).1
theorem p_nearestTo {w : aW} {j : Nat} (hj : j + 9 < 75) (κ : aK) {b : Nat} (hb : b < 9) : f_X0_nearestTo j (nI b) (putM w j κ) = some (nI (nearK κ b), putM w j κ) := by
  unfold f_X0_nearestTo
  refine for4 (fun s : Nat × Int32 => nI s.1) (fun s => s.2) (fun _ => putM w j κ) (c_X0_nearestTo_8 j (nI b)) 5 (nearF κ b) (fun s => some (nI s.1, putM w j κ)) (fun _ _ => True) ?_ (fun _ _ _ _ => trivial) ?_ 5 0 (0, 16) a_fuel rfl (by decide) trivial
  · intro k i s hi _
    simp only [c_X0_nearestTo_8, le_5 hi, gI_M0 hj, gI_M1 hj, gI_M2 hj, gI_M3 hj, gR_M4 hj, gR_M5 hj, gR_M6 hj, gR_M7 hj, gR_M8 hj, gR_M9 hj, gR_M10 hj, gR_M11 hj, gR_M12 hj, cV_M hj, bk_some, bind_some', zb_0, zb_1, zb_or, cc_or, kset_1, kset_21, kint_1, kint_21, kint_22, gA_M6 hj κ hi, gA_M2 hj κ hb, if_true, if_false, not_true_eq_false, not_false_eq_true, Bool.false_eq_true, Bool.true_eq_false, reduceIte, ite_true, ite_false, nI_1]
    unfold nearF dI absI
    split <;> split <;> rfl
  · intro k s _
    simp only [c_X0_nearestTo_8]
    rfl
def richF (κ : aK) (i : Nat) (s : Nat) : Nat := if κ.2.2 5 i ≤ κ.2.2 5 s then s else i
def richK (κ : aK) : Nat := itr (richF κ) 1 4 0
theorem p_richest {w : aW} {j : Nat} (hj : j + 9 < 75) (κ : aK) : f_X0_richest j (putM w j κ) = some (nI (richK κ), putM w j κ) ∧ richK κ < 5 := by
  have hlt : ∀ m i s, i + m = 5 → s < 5 → itr (richF κ) i m s < 5 := by
    intro m
    induction m with
    | zero => intro i s _ h; exact h
    | succ m ih =>
      intro i s hm h
      refine ih (i + 1) _ (by omega) ?_
      unfold richF
      split
      · exact h
      · omega
  refine ⟨?_, hlt 4 1 0 rfl (by decide)⟩
  unfold f_X0_richest
  refine for3 (fun s : Nat => nI s) (fun _ => putM w j κ) (c_X0_richest_4 j) 5 (richF κ) (fun s => some (nI s, putM w j κ)) (fun _ s => s < 5) ?_ ?_ ?_ 4 1 0 a_fuel rfl (by decide) (by decide)
  · intro k i s hi hs
    simp only [c_X0_richest_4, le_5 hi, gI_M0 hj, gI_M1 hj, gI_M2 hj, gI_M3 hj, gR_M4 hj, gR_M5 hj, gR_M6 hj, gR_M7 hj, gR_M8 hj, gR_M9 hj, gR_M10 hj, gR_M11 hj, gR_M12 hj, cV_M hj, bk_some, bind_some', zb_0, zb_1, zb_or, cc_or, kset_1, kset_21, kint_1, kint_21, kint_22, gA_M5 hj κ hi, gA_M5 hj κ hs, if_true, if_false, not_true_eq_false, not_false_eq_true, Bool.false_eq_true, Bool.true_eq_false, reduceIte, ite_true, ite_false, nI_1]
    unfold richF
    split <;> rfl
  · intro i s hi hs
    unfold richF
    split
    · exact hs
    · exact hi
  · intro k s _
    simp only [c_X0_richest_4]
    rfl
theorem nearK_lt (κ : aK) (b : Nat) : nearK κ b < 5 := by
  have hlt : ∀ m i s, i + m = 5 → s.1 < 5 → (itr (nearF κ b) i m s).1 < 5 := by
    intro m
    induction m with
    | zero => intro i s _ h; exact h
    | succ m ih =>
      intro i s hm h
      refine ih (i + 1) _ (by omega) ?_
      unfold nearF
      split
      · exact h
      · show i < 5; omega
  exact hlt 5 0 (0, 16) rfl (by decide)
