/-! PURE: the hungriest, at both sides -/
def hunF (κ : aK) (i : Nat) (o : Option Nat) : Option Nat := if bitB (κ.2.1 1) (nI i) = true then (if κ.2.2 3 i ≤ o.elim (-1) (κ.2.2 3) then o else some i) else o
def hunK (κ : aK) : Int32 := o4 (itr (hunF κ) 0 9 none)
theorem p_hungriest {w : aW} {j : Nat} (hj : j + 9 < 75) (κ : aK) : f_X0_hungriest j (putM w j κ) = some (hunK κ, putM w j κ) := by
  unfold f_X0_hungriest
  refine for4 (fun o : Option Nat => o4 o) (fun o => o.elim (-1) (κ.2.2 3)) (fun _ => putM w j κ) (c_X0_hungriest_7 j) 9 (hunF κ) (fun o => some (o4 o, putM w j κ)) (fun _ _ => True) ?_ (fun _ _ _ _ => trivial) ?_ 9 0 none a_fuel rfl (by decide) trivial
  · intro k i o hi _
    simp only [c_X0_hungriest_7, le_9 hi, p_isAlive hj, gI_M0 hj, gI_M1 hj, gI_M2 hj, gI_M3 hj, gR_M4 hj, gR_M5 hj, gR_M6 hj, gR_M7 hj, gR_M8 hj, gR_M9 hj, gR_M10 hj, gR_M11 hj, gR_M12 hj, cV_M hj, bk_some, bind_some', zb_0, zb_1, zb_or, cc_or, kset_1, kset_21, kint_1, kint_21, kint_22, gA_M3 hj κ hi, if_true, if_false, not_true_eq_false, not_false_eq_true, Bool.false_eq_true, Bool.true_eq_false, reduceIte, ite_true, ite_false, nI_1]
    unfold hunF
    by_cases h : bitB (κ.2.1 1) (nI i) = true
    · by_cases h' : κ.2.2 3 i ≤ o.elim (-1) (κ.2.2 3)
      · simp only [h, h', if_true, if_true, if_false, not_true_eq_false, not_false_eq_true, Bool.false_eq_true, Bool.true_eq_false, reduceIte, ite_true, ite_false]
      · simp only [h, h', if_true, if_false, if_true, if_false, not_true_eq_false, not_false_eq_true, Bool.false_eq_true, Bool.true_eq_false, reduceIte, ite_true, ite_false]
        rfl
    · simp only [Bool.eq_false_iff.mpr h, if_true, if_false, not_true_eq_false, not_false_eq_true, Bool.false_eq_true, Bool.true_eq_false, reduceIte, ite_true, ite_false]
  · intro k o _
    simp only [c_X0_hungriest_7]
    rfl
theorem m_hungriest (w : aW) (y : aY) {κ : aK} (hW : WF κ) : f_X4_hungriest 50 (putY w κ y) = some (hunK κ, putY w κ y) := by
  have hk := hW.1
  unfold hunK
  rw [itr_many hk none (fun i h1 h2 => by unfold hunF; rw [(hW.2.2.2.2 i h1 h2).2]; rfl)]
  unfold f_X4_hungriest
  refine for3 (fun o : Option Nat => o4 o) (fun _ => putY w κ y) (c_X4_hungriest_5 50) κ.1 (hunF κ) (fun o => some (o4 o, putY w κ y)) (fun _ o => ∀ z, o = some z → z < κ.1) ?_ ?_ ?_ κ.1 0 none a_fuel (by omega) (show κ.1 < 1000 by omega) (fun z h => by cases h)
  · intro k i o hi ho
    obtain ⟨g, hg, hge⟩ := (hW.2.1 i (by omega)).2.2.2.1
    simp only [c_X4_hungriest_5, lt_9I hi hk, p_hasBit, o4_lt (o := o) (fun z h => by have := ho z h; omega), gI_Y0, gR_Y1, gR_Y2, gR_Y3, gR_Y4, gR_Y5, gI_Y6, gR_Y7, gR_Y8, gR_Y9, gR_Y10, gI_Y11, gI_Y12, gR_Y13, gR_Y14, gR_Y15, gR_Y16, gR_Y17, gR_Y18, gI_Y19, gI_Y20, gI_Y21, gI_Y22, gI_Y23, gR_Y24, gR_Y25, gR_Y26, gR_Y27, gR_Y28, gI_Y29, gI_Y30, gI_Y31, gR_Y33, gR_Y34, gI_Y35, gR_Y36, cV_Y, bk_some, bind_some', zb_0, zb_1, zb_or, cc_or, kset_1, kset_21, kint_1, kint_21, kint_22, putY_moved, if_true, if_false, not_true_eq_false, not_false_eq_true, Bool.false_eq_true, Bool.true_eq_false, reduceIte, ite_true, ite_false, nI_1]
    unfold hunF
    by_cases h : bitB (κ.2.1 1) (nI i) = true
    · cases o with
      | none =>
        have hneg : ¬ κ.2.2 3 i ≤ -1 := by rw [hge]; exact fun z => nI_pos (n := g) (by omega) (Int32.lt_of_le_of_lt z (by decide))
        simp only [h, Option.elim, hneg, if_true, if_false, not_true_eq_false, not_false_eq_true, Bool.false_eq_true, Bool.true_eq_false, reduceIte, ite_true, ite_false]
        rfl
      | some z =>
        have hz := ho z rfl
        have e : o4 (some z) = nI z := rfl
        by_cases h' : κ.2.2 3 i ≤ κ.2.2 3 z
        · have h'' : κ.2.2 3 i ≤ (some z).elim (-1) (κ.2.2 3) := h'
          rw [if_pos h, if_pos h'']
          simp only [h, h', e, gA_Y54 w y hk hi, gA_Y54 w y hk hz, bind_some', show ¬ (some z = none) from (fun h => by cases h), if_true, if_false, not_true_eq_false, not_false_eq_true, Bool.false_eq_true, Bool.true_eq_false, reduceIte, ite_true, ite_false]
        · have h'' : ¬ κ.2.2 3 i ≤ (some z).elim (-1) (κ.2.2 3) := h'
          rw [if_pos h, if_neg h'']
          simp only [h, h', e, gA_Y54 w y hk hi, gA_Y54 w y hk hz, bind_some', show ¬ (some z = none) from (fun h => by cases h), if_true, if_false, not_true_eq_false, not_false_eq_true, Bool.false_eq_true, Bool.true_eq_false, reduceIte, ite_true, ite_false]
          rfl
    · simp only [Bool.eq_false_iff.mpr h, if_true, if_false, not_true_eq_false, not_false_eq_true, Bool.false_eq_true, Bool.true_eq_false, reduceIte, ite_true, ite_false]
  · intro i o hi ho z hz
    unfold hunF at hz
    split at hz
    · split at hz
      · exact ho z hz
      · cases hz; exact hi
    · exact ho z hz
  · intro k o _
    simp only [c_X4_hungriest_5, gI_Y0, gR_Y1, gR_Y2, gR_Y3, gR_Y4, gR_Y5, gI_Y6, gR_Y7, gR_Y8, gR_Y9, gR_Y10, gI_Y11, gI_Y12, gR_Y13, gR_Y14, gR_Y15, gR_Y16, gR_Y17, gR_Y18, gI_Y19, gI_Y20, gI_Y21, gI_Y22, gI_Y23, gR_Y24, gR_Y25, gR_Y26, gR_Y27, gR_Y28, gI_Y29, gI_Y30, gI_Y31, gR_Y33, gR_Y34, gI_Y35, gR_Y36, cV_Y, bk_some, bind_some', zb_0, zb_1, zb_or, cc_or, kset_1, kset_21, kint_1, kint_21, kint_22, putY_moved, Int32.le_refl, if_true, if_false, not_true_eq_false, not_false_eq_true, Bool.false_eq_true, Bool.true_eq_false, reduceIte, ite_true, ite_false]
