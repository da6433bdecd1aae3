/-! PURE: what is told of a beast and of a person -/
def sumF (P : Nat → Bool) (g : Nat → Int32) (i : Nat) (s : Int32) : Int32 := if P i = true then s + g i else s
def sumK (P : Nat → Bool) (g : Nat → Int32) (n : Nat) : Int32 := itr (sumF P g) 0 n 0
theorem sum_ext {P Q : Nat → Bool} {g : Nat → Int32} {n : Nat} (hn : n ≤ 9) (h1 : ∀ i, i < n → P i = Q i) (h2 : ∀ i, n ≤ i → i < 9 → P i = false) : sumK P g 9 = sumK Q g n := by
  unfold sumK
  rw [itr_many hn 0 (fun i h3 h4 => by unfold sumF; rw [h2 i h3 h4]; rfl)]
  exact itr_cong n 0 0 (fun i s _ h => by unfold sumF; rw [h1 i (by omega)])
theorem p_needTogether {w : aW} {j : Nat} (hj : j + 9 < 75) (κ : aK) (m : Int32) : f_X0_needTogether j m (putM w j κ) = some (sumK (fun i => bitB m (nI i)) (needK κ) 9, putM w j κ) := by
  unfold f_X0_needTogether
  refine for3 (fun s : Int32 => s) (fun _ => putM w j κ) (c_X0_needTogether_4 j m) 9 (sumF (fun i => bitB m (nI i)) (needK κ)) (fun s => some (s, putM w j κ)) (fun _ _ => True) ?_ (fun _ _ _ _ => trivial) ?_ 9 0 0 a_fuel rfl (by decide) trivial
  · intro k i s hi _
    simp only [c_X0_needTogether_4, le_9 hi, p_has, gI_M0 hj, gI_M1 hj, gI_M2 hj, gI_M3 hj, gR_M4 hj, gR_M5 hj, gR_M6 hj, gR_M7 hj, gR_M8 hj, gR_M9 hj, gR_M10 hj, gR_M11 hj, gR_M12 hj, cV_M hj, bk_some, bind_some', zb_0, zb_1, zb_or, cc_or, kset_1, kset_21, kint_1, kint_21, kint_22, gA_M0 hj κ hi, gA_M1 hj κ hi, p_needOf, if_true, if_false, not_true_eq_false, not_false_eq_true, Bool.false_eq_true, Bool.true_eq_false, reduceIte, ite_true, ite_false, nI_1]
    unfold sumF needK
    by_cases h : bitB m (nI i) = true <;> simp [h]
  · intro k s _
    simp only [c_X0_needTogether_4]
    rfl
theorem p_workTogether {w : aW} {j : Nat} (hj : j + 9 < 75) (κ : aK) (m : Int32) : f_X0_workTogether j m (putM w j κ) = some (sumK (fun i => bitB m (nI i)) (workK κ) 9, putM w j κ) := by
  unfold f_X0_workTogether
  refine for3 (fun s : Int32 => s) (fun _ => putM w j κ) (c_X0_workTogether_4 j m) 9 (sumF (fun i => bitB m (nI i)) (workK κ)) (fun s => some (s, putM w j κ)) (fun _ _ => True) ?_ (fun _ _ _ _ => trivial) ?_ 9 0 0 a_fuel rfl (by decide) trivial
  · intro k i s hi _
    simp only [c_X0_workTogether_4, le_9 hi, p_has, gI_M0 hj, gI_M1 hj, gI_M2 hj, gI_M3 hj, gR_M4 hj, gR_M5 hj, gR_M6 hj, gR_M7 hj, gR_M8 hj, gR_M9 hj, gR_M10 hj, gR_M11 hj, gR_M12 hj, cV_M hj, bk_some, bind_some', zb_0, zb_1, zb_or, cc_or, kset_1, kset_21, kint_1, kint_21, kint_22, gA_M0 hj κ hi, gA_M1 hj κ hi, p_workOf, if_true, if_false, not_true_eq_false, not_false_eq_true, Bool.false_eq_true, Bool.true_eq_false, reduceIte, ite_true, ite_false, nI_1]
    unfold sumF workK
    by_cases h : bitB m (nI i) = true <;> simp [h]
  · intro k s _
    simp only [c_X0_workTogether_4]
    rfl
theorem i32_add0 (x : Int32) : x + 0 = x := by simp
theorem i32_or0 (x : Int32) : x ||| 0 = x := by simp
theorem lt_9I {a b : Nat} (ha : a < b) (hb : b ≤ 9) : ¬ nI b ≤ nI a := le_nIb (by omega) (by omega) ha
theorem out_called {κ : aK} (hW : WF κ) {p : Nat} (hp : p < 5) {i : Nat} (h1 : κ.1 ≤ i) (h2 : i < 9) : decide (κ.2.2 4 i = nI p) = false := by
  rw [(hW.2.2.2.2 i h1 h2).1]
  exact decide_eq_false (fun h => nI_ne4 (p := p) (by omega) h.symm)
theorem m_needBy (w : aW) (y : aY) {κ : aK} (hW : WF κ) {p : Nat} (hp : p < 5) : f_X4_needBy 50 (nI p) (putY w κ y) = some (sumK (fun i => bitB (calledK κ (nI p)) (nI i)) (needK κ) 9, putY w κ y) := by
  have hk := hW.1
  rw [sum_ext (n := κ.1) (Q := fun i => decide (κ.2.2 4 i = nI p)) hk (fun i hi => by unfold calledK; rw [bit_msk _ (by decide) (by omega), decide_eq_true (show i < 9 by omega)]; rfl) (fun i h1 h2 => by unfold calledK; rw [bit_msk _ (by decide) (by omega), out_called hW hp h1 h2, Bool.and_false])]
  unfold f_X4_needBy
  refine for3 (fun s : Int32 => s) (fun _ => putY w κ y) (c_X4_needBy_4 50 (nI p)) κ.1 (sumF (fun i => decide (κ.2.2 4 i = nI p)) (needK κ)) (fun s => some (s, putY w κ y)) (fun _ _ => True) ?_ (fun _ _ _ _ => trivial) ?_ κ.1 0 0 a_fuel (by omega) (show κ.1 < 1000 by omega) trivial
  · intro k i s hi _
    simp only [c_X4_needBy_4, gI_Y0, gR_Y1, gR_Y2, gR_Y3, gR_Y4, gR_Y5, gI_Y6, gR_Y7, gR_Y8, gR_Y9, gR_Y10, gI_Y11, gI_Y12, gR_Y13, gR_Y14, gR_Y15, gR_Y16, gR_Y17, gR_Y18, gI_Y19, gI_Y20, gI_Y21, gI_Y22, gI_Y23, gR_Y24, gR_Y25, gR_Y26, gR_Y27, gR_Y28, gI_Y29, gI_Y30, gI_Y31, gR_Y33, gR_Y34, gI_Y35, gR_Y36, cV_Y, bk_some, bind_some', zb_0, zb_1, zb_or, cc_or, kset_1, kset_21, kint_1, kint_21, kint_22, putY_moved, lt_9I hi hk, gA_Y55 w y hk hi, m_needOf w y hW hi, if_true, if_false, not_true_eq_false, not_false_eq_true, Bool.false_eq_true, Bool.true_eq_false, reduceIte, ite_true, ite_false, nI_1, i32_add0]
    unfold sumF
    by_cases h : κ.2.2 4 i = nI p
    · simp [h]
    · simp [h]
  · intro k s _
    simp only [c_X4_needBy_4, gI_Y0, gR_Y1, gR_Y2, gR_Y3, gR_Y4, gR_Y5, gI_Y6, gR_Y7, gR_Y8, gR_Y9, gR_Y10, gI_Y11, gI_Y12, gR_Y13, gR_Y14, gR_Y15, gR_Y16, gR_Y17, gR_Y18, gI_Y19, gI_Y20, gI_Y21, gI_Y22, gI_Y23, gR_Y24, gR_Y25, gR_Y26, gR_Y27, gR_Y28, gI_Y29, gI_Y30, gI_Y31, gR_Y33, gR_Y34, gI_Y35, gR_Y36, cV_Y, bk_some, bind_some', zb_0, zb_1, zb_or, cc_or, kset_1, kset_21, kint_1, kint_21, kint_22, putY_moved, Int32.le_refl, if_true, if_false, not_true_eq_false, not_false_eq_true, Bool.false_eq_true, Bool.true_eq_false, reduceIte, ite_true, ite_false]
theorem m_workBy (w : aW) (y : aY) {κ : aK} (hW : WF κ) {p : Nat} (hp : p < 5) : f_X4_workBy 50 (nI p) (putY w κ y) = some (sumK (fun i => bitB (calledK κ (nI p)) (nI i)) (workK κ) 9, putY w κ y) := by
  have hk := hW.1
  rw [sum_ext (n := κ.1) (Q := fun i => decide (κ.2.2 4 i = nI p)) hk (fun i hi => by unfold calledK; rw [bit_msk _ (by decide) (by omega), decide_eq_true (show i < 9 by omega)]; rfl) (fun i h1 h2 => by unfold calledK; rw [bit_msk _ (by decide) (by omega), out_called hW hp h1 h2, Bool.and_false])]
  unfold f_X4_workBy
  refine for3 (fun s : Int32 => s) (fun _ => putY w κ y) (c_X4_workBy_4 50 (nI p)) κ.1 (sumF (fun i => decide (κ.2.2 4 i = nI p)) (workK κ)) (fun s => some (s, putY w κ y)) (fun _ _ => True) ?_ (fun _ _ _ _ => trivial) ?_ κ.1 0 0 a_fuel (by omega) (show κ.1 < 1000 by omega) trivial
  · intro k i s hi _
    simp only [c_X4_workBy_4, gI_Y0, gR_Y1, gR_Y2, gR_Y3, gR_Y4, gR_Y5, gI_Y6, gR_Y7, gR_Y8, gR_Y9, gR_Y10, gI_Y11, gI_Y12, gR_Y13, gR_Y14, gR_Y15, gR_Y16, gR_Y17, gR_Y18, gI_Y19, gI_Y20, gI_Y21, gI_Y22, gI_Y23, gR_Y24, gR_Y25, gR_Y26, gR_Y27, gR_Y28, gI_Y29, gI_Y30, gI_Y31, gR_Y33, gR_Y34, gI_Y35, gR_Y36, cV_Y, bk_some, bind_some', zb_0, zb_1, zb_or, cc_or, kset_1, kset_21, kint_1, kint_21, kint_22, putY_moved, lt_9I hi hk, gA_Y55 w y hk hi, m_workOf w y hW hi, if_true, if_false, not_true_eq_false, not_false_eq_true, Bool.false_eq_true, Bool.true_eq_false, reduceIte, ite_true, ite_false, nI_1, i32_add0]
    unfold sumF
    by_cases h : κ.2.2 4 i = nI p
    · simp [h]
    · simp [h]
  · intro k s _
    simp only [c_X4_workBy_4, gI_Y0, gR_Y1, gR_Y2, gR_Y3, gR_Y4, gR_Y5, gI_Y6, gR_Y7, gR_Y8, gR_Y9, gR_Y10, gI_Y11, gI_Y12, gR_Y13, gR_Y14, gR_Y15, gR_Y16, gR_Y17, gR_Y18, gI_Y19, gI_Y20, gI_Y21, gI_Y22, gI_Y23, gR_Y24, gR_Y25, gR_Y26, gR_Y27, gR_Y28, gI_Y29, gI_Y30, gI_Y31, gR_Y33, gR_Y34, gI_Y35, gR_Y36, cV_Y, bk_some, bind_some', zb_0, zb_1, zb_or, cc_or, kset_1, kset_21, kint_1, kint_21, kint_22, putY_moved, Int32.le_refl, if_true, if_false, not_true_eq_false, not_false_eq_true, Bool.false_eq_true, Bool.true_eq_false, reduceIte, ite_true, ite_false]
theorem m_calledBits (w : aW) (y : aY) {κ : aK} (hW : WF κ) {p : Nat} (hp : p < 5) : f_X4_calledBits 50 (nI p) (putY w κ y) = some (calledK κ (nI p), putY w κ y) := by
  have hk := hW.1
  rw [show calledK κ (nI p) = mskK (fun i => decide (κ.2.2 4 i = nI p)) κ.1 from msk_ext (by decide) hk (fun i hi => by
    by_cases h : i < κ.1
    · rw [decide_eq_true hi, decide_eq_true h]
    · rw [out_called hW hp (by omega) hi, Bool.and_false, Bool.and_false])]
  unfold f_X4_calledBits
  refine for3 (fun s : Int32 => s) (fun _ => putY w κ y) (c_X4_calledBits_4 50 (nI p)) κ.1 (mskF (fun i => decide (κ.2.2 4 i = nI p))) (fun s => some (s, putY w κ y)) (fun _ _ => True) ?_ (fun _ _ _ _ => trivial) ?_ κ.1 0 0 a_fuel (by omega) (show κ.1 < 1000 by omega) trivial
  · intro k i s hi _
    simp only [c_X4_calledBits_4, gI_Y0, gR_Y1, gR_Y2, gR_Y3, gR_Y4, gR_Y5, gI_Y6, gR_Y7, gR_Y8, gR_Y9, gR_Y10, gI_Y11, gI_Y12, gR_Y13, gR_Y14, gR_Y15, gR_Y16, gR_Y17, gR_Y18, gI_Y19, gI_Y20, gI_Y21, gI_Y22, gI_Y23, gR_Y24, gR_Y25, gR_Y26, gR_Y27, gR_Y28, gI_Y29, gI_Y30, gI_Y31, gR_Y33, gR_Y34, gI_Y35, gR_Y36, cV_Y, bk_some, bind_some', zb_0, zb_1, zb_or, cc_or, kset_1, kset_21, kint_1, kint_21, kint_22, putY_moved, lt_9I hi hk, gA_Y55 w y hk hi, if_true, if_false, not_true_eq_false, not_false_eq_true, Bool.false_eq_true, Bool.true_eq_false, reduceIte, ite_true, ite_false, nI_1, i32_or0]
    unfold mskF oneI
    by_cases h : κ.2.2 4 i = nI p
    · simp [h]
    · simp [h]
  · intro k s _
    simp only [c_X4_calledBits_4, gI_Y0, gR_Y1, gR_Y2, gR_Y3, gR_Y4, gR_Y5, gI_Y6, gR_Y7, gR_Y8, gR_Y9, gR_Y10, gI_Y11, gI_Y12, gR_Y13, gR_Y14, gR_Y15, gR_Y16, gR_Y17, gR_Y18, gI_Y19, gI_Y20, gI_Y21, gI_Y22, gI_Y23, gR_Y24, gR_Y25, gR_Y26, gR_Y27, gR_Y28, gI_Y29, gI_Y30, gI_Y31, gR_Y33, gR_Y34, gI_Y35, gR_Y36, cV_Y, bk_some, bind_some', zb_0, zb_1, zb_or, cc_or, kset_1, kset_21, kint_1, kint_21, kint_22, putY_moved, Int32.le_refl, if_true, if_false, not_true_eq_false, not_false_eq_true, Bool.false_eq_true, Bool.true_eq_false, reduceIte, ite_true, ite_false]
theorem neg_m4 {κ : aK} (hW : WF κ) {i : Nat} (hi : i < 9) : (κ.2.2 4 i < 0) = (κ.2.2 4 i = -4) := by
  rcases (hW.2.1 i hi).2.2.2.2 with h | ⟨p, hp, h⟩
  · rw [h]; exact propext ⟨fun _ => rfl, fun _ => m4_lt⟩
  · rw [h]; exact propext ⟨fun z => absurd z (nI_nlt0 (by omega)), fun z => absurd z (nI_ne4 (by omega))⟩
theorem m_calledAll (w : aW) (y : aY) {κ : aK} (hW : WF κ) : f_X4_calledAll 50 (putY w κ y) = some (calledAnyK κ, putY w κ y) := by
  have hk := hW.1
  rw [show calledAnyK κ = mskK (fun i => !decide (κ.2.2 4 i = -4)) κ.1 from msk_ext (by decide) hk (fun i hi => by
    by_cases h : i < κ.1
    · rw [decide_eq_true hi, decide_eq_true h]
    · rw [decide_eq_true ((hW.2.2.2.2 i (by omega) hi).1), Bool.not_true, Bool.and_false, Bool.and_false])]
  unfold f_X4_calledAll
  refine for3 (fun s : Int32 => s) (fun _ => putY w κ y) (c_X4_calledAll_4 50) κ.1 (mskF (fun i => !decide (κ.2.2 4 i = -4))) (fun s => some (s, putY w κ y)) (fun _ _ => True) ?_ (fun _ _ _ _ => trivial) ?_ κ.1 0 0 a_fuel (by omega) (show κ.1 < 1000 by omega) trivial
  · intro k i s hi _
    simp only [c_X4_calledAll_4, gI_Y0, gR_Y1, gR_Y2, gR_Y3, gR_Y4, gR_Y5, gI_Y6, gR_Y7, gR_Y8, gR_Y9, gR_Y10, gI_Y11, gI_Y12, gR_Y13, gR_Y14, gR_Y15, gR_Y16, gR_Y17, gR_Y18, gI_Y19, gI_Y20, gI_Y21, gI_Y22, gI_Y23, gR_Y24, gR_Y25, gR_Y26, gR_Y27, gR_Y28, gI_Y29, gI_Y30, gI_Y31, gR_Y33, gR_Y34, gI_Y35, gR_Y36, cV_Y, bk_some, bind_some', zb_0, zb_1, zb_or, cc_or, kset_1, kset_21, kint_1, kint_21, kint_22, putY_moved, lt_9I hi hk, gA_Y55 w y hk hi, neg_m4 hW (show i < 9 by omega), if_true, if_false, not_true_eq_false, not_false_eq_true, Bool.false_eq_true, Bool.true_eq_false, reduceIte, ite_true, ite_false, nI_1, i32_or0]
    unfold mskF oneI
    by_cases h : κ.2.2 4 i = -4
    · simp [h]
    · simp [h]
  · intro k s _
    simp only [c_X4_calledAll_4, gI_Y0, gR_Y1, gR_Y2, gR_Y3, gR_Y4, gR_Y5, gI_Y6, gR_Y7, gR_Y8, gR_Y9, gR_Y10, gI_Y11, gI_Y12, gR_Y13, gR_Y14, gR_Y15, gR_Y16, gR_Y17, gR_Y18, gI_Y19, gI_Y20, gI_Y21, gI_Y22, gI_Y23, gR_Y24, gR_Y25, gR_Y26, gR_Y27, gR_Y28, gI_Y29, gI_Y30, gI_Y31, gR_Y33, gR_Y34, gI_Y35, gR_Y36, cV_Y, bk_some, bind_some', zb_0, zb_1, zb_or, cc_or, kset_1, kset_21, kint_1, kint_21, kint_22, putY_moved, Int32.le_refl, if_true, if_false, not_true_eq_false, not_false_eq_true, Bool.false_eq_true, Bool.true_eq_false, reduceIte, ite_true, ite_false]
def freeK (κ : aK) : Int32 := κ.2.1 1 &&& (calledAnyK κ ^^^ (-1))
theorem bit_free {κ : aK} {i : Nat} (hi : i < 9) : bitB (freeK κ) (nI i) = (bitB (κ.2.1 1) (nI i) && decide (κ.2.2 4 i = -4)) := by
  unfold freeK calledAnyK
  rw [bit_and _ _ (by omega), bit_not _ (by omega), bit_msk _ (by decide) (by omega), decide_eq_true hi, Bool.true_and, Bool.not_not]
theorem p_freeOnes {w : aW} {j : Nat} (hj : j + 9 < 75) (κ : aK) : f_X0_freeOnes j (putM w j κ) = some (freeK κ, putM w j κ) := by
  unfold f_X0_freeOnes
  simp only [gI_M0 hj, gI_M1 hj, gI_M2 hj, gI_M3 hj, gR_M4 hj, gR_M5 hj, gR_M6 hj, gR_M7 hj, gR_M8 hj, gR_M9 hj, gR_M10 hj, gR_M11 hj, gR_M12 hj, cV_M hj, bk_some, bind_some', zb_0, zb_1, zb_or, cc_or, kset_1, kset_21, kint_1, kint_21, kint_22, p_calledByAnybody hj, if_true, if_false, not_true_eq_false, not_false_eq_true, Bool.false_eq_true, Bool.true_eq_false, reduceIte, ite_true, ite_false]
  rfl
theorem m_freeBits (w : aW) (y : aY) {κ : aK} (hW : WF κ) : f_X4_freeBits 50 (putY w κ y) = some (freeK κ, putY w κ y) := by
  have hk := hW.1
  have e : freeK κ = mskK (fun i => bitB (κ.2.1 1) (nI i) && decide (κ.2.2 4 i = -4)) κ.1 := by
    obtain ⟨a, ha, hA⟩ := hW.2.2.2.1
    obtain ⟨b, hb, hB⟩ := and_lt ha (calledAnyK κ ^^^ (-1))
    obtain ⟨c, hc, hC⟩ := msk_lt (fun i => bitB (κ.2.1 1) (nI i) && decide (κ.2.2 4 i = -4)) hk
    have e1 : freeK κ = nI b := by unfold freeK; rw [hA]; exact hB
    rw [e1, hC]
    refine ext9 hb hc (fun i hi => ?_)
    rw [← e1, ← hC, bit_free hi, bit_msk _ (by omega) (by omega)]
    by_cases h : i < κ.1
    · rw [decide_eq_true h, Bool.true_and]
    · rw [decide_eq_false h, Bool.false_and, (hW.2.2.2.2 i (by omega) hi).2, Bool.false_and]
  rw [e]
  unfold f_X4_freeBits
  refine for3 (fun s : Int32 => s) (fun _ => putY w κ y) (c_X4_freeBits_4 50) κ.1 (mskF (fun i => bitB (κ.2.1 1) (nI i) && decide (κ.2.2 4 i = -4))) (fun s => some (s, putY w κ y)) (fun _ _ => True) ?_ (fun _ _ _ _ => trivial) ?_ κ.1 0 0 a_fuel (by omega) (show κ.1 < 1000 by omega) trivial
  · intro k i s hi _
    simp only [c_X4_freeBits_4, gI_Y0, gR_Y1, gR_Y2, gR_Y3, gR_Y4, gR_Y5, gI_Y6, gR_Y7, gR_Y8, gR_Y9, gR_Y10, gI_Y11, gI_Y12, gR_Y13, gR_Y14, gR_Y15, gR_Y16, gR_Y17, gR_Y18, gI_Y19, gI_Y20, gI_Y21, gI_Y22, gI_Y23, gR_Y24, gR_Y25, gR_Y26, gR_Y27, gR_Y28, gI_Y29, gI_Y30, gI_Y31, gR_Y33, gR_Y34, gI_Y35, gR_Y36, cV_Y, bk_some, bind_some', zb_0, zb_1, zb_or, cc_or, kset_1, kset_21, kint_1, kint_21, kint_22, putY_moved, lt_9I hi hk, m_isFree w y hW hi, if_true, if_false, not_true_eq_false, not_false_eq_true, Bool.false_eq_true, Bool.true_eq_false, reduceIte, ite_true, ite_false, nI_1, i32_or0]
    unfold mskF oneI
    by_cases h : bitB (κ.2.1 1) (nI i) = true <;> by_cases h' : κ.2.2 4 i = -4 <;> simp [h, h']
  · intro k s _
    simp only [c_X4_freeBits_4, gI_Y0, gR_Y1, gR_Y2, gR_Y3, gR_Y4, gR_Y5, gI_Y6, gR_Y7, gR_Y8, gR_Y9, gR_Y10, gI_Y11, gI_Y12, gR_Y13, gR_Y14, gR_Y15, gR_Y16, gR_Y17, gR_Y18, gI_Y19, gI_Y20, gI_Y21, gI_Y22, gI_Y23, gR_Y24, gR_Y25, gR_Y26, gR_Y27, gR_Y28, gI_Y29, gI_Y30, gI_Y31, gR_Y33, gR_Y34, gI_Y35, gR_Y36, cV_Y, bk_some, bind_some', zb_0, zb_1, zb_or, cc_or, kset_1, kset_21, kint_1, kint_21, kint_22, putY_moved, Int32.le_refl, if_true, if_false, not_true_eq_false, not_false_eq_true, Bool.false_eq_true, Bool.true_eq_false, reduceIte, ite_true, ite_false]
