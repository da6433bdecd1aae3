/-! PURE: what is told comes, at the model; mountain -/
theorem dn_n {n : Nat} (h : n < 2 ^ 31) : dnB (nI n) = true := by
  unfold dnB
  rw [decide_eq_true (nI_pos' h)]
  rfl
theorem dn_1 : dnB (-1) = false := by decide
theorem dn_2 : dnB (-2) = false := by decide
theorem dn_3 : dnB (-3) = false := by decide
theorem dn_4 : dnB (-4) = true := by decide
theorem stR_yes {r : Int32 × aK} (h : dnB r.1 = true) : stR r = some r.2 := if_pos h
theorem stR_no {r : Int32 × aK} (h : dnB r.1 = false) : stR r = none := if_neg (by rw [h]; decide)
/-- f does at the model what o says, the rows behind the beasts aside -/
def Tol (w : aW) (κ : aK) (Y : aY) (f : Option (Int32 × aW)) (o : Option aK) : Prop := (∀ κ', o = some κ' → ∃ J, f = some (1, putY w κ' (Y.1, Y.2.1, J, Y.2.2.2))) ∧ (o = none → f = some (0, putY w κ Y))
theorem Tol.yes {w : aW} {κ κ' : aK} {Y : aY} {f : Option (Int32 × aW)} {o : Option aK} (ho : o = some κ') (h : f = some (1, putY w κ' Y)) : Tol w κ Y f o := ⟨fun κ'' e => by
  rw [ho] at e
  cases e
  exact ⟨Y.2.2.1, h⟩, fun e => by rw [ho] at e; cases e⟩
theorem Tol.no {w : aW} {κ : aK} {Y : aY} {f : Option (Int32 × aW)} {o : Option aK} (ho : o = none) (h : f = some (0, putY w κ Y)) : Tol w κ Y f o := ⟨fun κ'' e => (by rw [ho] at e; cases e), fun _ => h⟩
theorem caller_dn {κ : aK} (hW : WF κ) {b : Nat} (hb : b < 9) : dnB (κ.2.2 4 b) = true := by
  rcases (hW.2.1 b hb).2.2.2.2 with h | ⟨p, hp, h⟩
  · rw [h]; exact dn_4
  · rw [h]; exact dn_n (by omega)
theorem tol_calls (w : aW) (Y : aY) {κ : aK} (hW : WF κ) (x y : Int32) : Tol w κ Y (f_X4_callComes 50 x y (putY w κ Y)) (stR (callsK x y κ)) := by
  have hk := hW.1
  by_cases h1 : inR x 0 4 = true
  · by_cases h2 : inR y 0 (nI κ.1 - 1) = true
    · by_cases h3 : bitB (κ.2.1 1) y = true
      · obtain ⟨b, hb, rfl⟩ := inB hk h2
        have e : callsK x (nI b) κ = (κ.2.2 4 b, kset κ 4 b x) := by
          unfold callsK
          rw [if_pos h1, if_pos h2, if_pos h3, ix_nI (by omega)]
        refine Tol.yes (κ' := kset κ 4 b x) (by rw [e]; exact stR_yes (caller_dn hW (by omega))) ?_
        unfold f_X4_callComes
        simp only [c_X4_callComes_31, h1, h2, h3, m_isPerson, m_isBeast, p_hasBit, sA_Y55 w Y hk hb, show ¬ (1 : Int32) = 0 by decide, or_true, gI_Y0, gR_Y1, gR_Y2, gR_Y3, gR_Y4, gR_Y5, gI_Y6, gR_Y7, gR_Y8, gR_Y9, gR_Y10, gI_Y11, gI_Y12, gR_Y13, gR_Y14, gR_Y15, gR_Y16, gR_Y17, gR_Y18, gI_Y19, gI_Y20, gI_Y21, gI_Y22, gI_Y23, gR_Y24, gR_Y25, gR_Y26, gR_Y27, gR_Y28, gI_Y29, gI_Y30, gI_Y31, gR_Y33, gR_Y34, gI_Y35, gR_Y36, cV_Y, bk_some, bind_some', zb_0, zb_1, zb_or, cc_or, kset_1, kset_21, kint_1, kint_21, kint_22, putY_moved, if_true, if_false, not_true_eq_false, not_false_eq_true, Bool.false_eq_true, Bool.true_eq_false, reduceIte, ite_true, ite_false]
      · have e : callsK x y κ = (-3, κ) := by
          unfold callsK
          rw [if_pos h1, if_pos h2, if_neg h3]
        refine Tol.no (by rw [e]; exact stR_no dn_3) ?_
        unfold f_X4_callComes
        simp only [c_X4_callComes_31, h1, h2, Bool.eq_false_iff.mpr h3, m_isPerson, m_isBeast, p_hasBit, true_or, gI_Y0, gR_Y1, gR_Y2, gR_Y3, gR_Y4, gR_Y5, gI_Y6, gR_Y7, gR_Y8, gR_Y9, gR_Y10, gI_Y11, gI_Y12, gR_Y13, gR_Y14, gR_Y15, gR_Y16, gR_Y17, gR_Y18, gI_Y19, gI_Y20, gI_Y21, gI_Y22, gI_Y23, gR_Y24, gR_Y25, gR_Y26, gR_Y27, gR_Y28, gI_Y29, gI_Y30, gI_Y31, gR_Y33, gR_Y34, gI_Y35, gR_Y36, cV_Y, bk_some, bind_some', zb_0, zb_1, zb_or, cc_or, kset_1, kset_21, kint_1, kint_21, kint_22, putY_moved, if_true, if_false, not_true_eq_false, not_false_eq_true, Bool.false_eq_true, Bool.true_eq_false, reduceIte, ite_true, ite_false]
    · have e : callsK x y κ = (-1, κ) := by
        unfold callsK
        rw [if_pos h1, if_neg h2]
      refine Tol.no (by rw [e]; exact stR_no dn_1) ?_
      unfold f_X4_callComes
      simp only [c_X4_callComes_31, h1, Bool.eq_false_iff.mpr h2, m_isPerson, m_isBeast, true_or, gI_Y0, gR_Y1, gR_Y2, gR_Y3, gR_Y4, gR_Y5, gI_Y6, gR_Y7, gR_Y8, gR_Y9, gR_Y10, gI_Y11, gI_Y12, gR_Y13, gR_Y14, gR_Y15, gR_Y16, gR_Y17, gR_Y18, gI_Y19, gI_Y20, gI_Y21, gI_Y22, gI_Y23, gR_Y24, gR_Y25, gR_Y26, gR_Y27, gR_Y28, gI_Y29, gI_Y30, gI_Y31, gR_Y33, gR_Y34, gI_Y35, gR_Y36, cV_Y, bk_some, bind_some', zb_0, zb_1, zb_or, cc_or, kset_1, kset_21, kint_1, kint_21, kint_22, putY_moved, if_true, if_false, not_true_eq_false, not_false_eq_true, Bool.false_eq_true, Bool.true_eq_false, reduceIte, ite_true, ite_false]
  · have e : callsK x y κ = (-1, κ) := by
      unfold callsK
      rw [if_neg h1]
    refine Tol.no (by rw [e]; exact stR_no dn_1) ?_
    unfold f_X4_callComes
    simp only [c_X4_callComes_31, Bool.eq_false_iff.mpr h1, m_isPerson, true_or, gI_Y0, gR_Y1, gR_Y2, gR_Y3, gR_Y4, gR_Y5, gI_Y6, gR_Y7, gR_Y8, gR_Y9, gR_Y10, gI_Y11, gI_Y12, gR_Y13, gR_Y14, gR_Y15, gR_Y16, gR_Y17, gR_Y18, gI_Y19, gI_Y20, gI_Y21, gI_Y22, gI_Y23, gR_Y24, gR_Y25, gR_Y26, gR_Y27, gR_Y28, gI_Y29, gI_Y30, gI_Y31, gR_Y33, gR_Y34, gI_Y35, gR_Y36, cV_Y, bk_some, bind_some', zb_0, zb_1, zb_or, cc_or, kset_1, kset_21, kint_1, kint_21, kint_22, putY_moved, if_true, if_false, not_true_eq_false, not_false_eq_true, Bool.false_eq_true, Bool.true_eq_false, reduceIte, ite_true, ite_false]
theorem place_dn {κ : aK} (hW : WF κ) {b : Nat} (hb : b < 9) : dnB (κ.2.2 2 b) = true := by
  obtain ⟨x, hx, h⟩ := (hW.2.1 b hb).2.2.1
  rw [h]; exact dn_n (by omega)
theorem tol_stands (w : aW) (Y : aY) {κ : aK} (hW : WF κ) (x y : Int32) : Tol w κ Y (f_X4_beastStands 50 x y (putY w κ Y)) (stR (standsK x y κ)) := by
  have hk := hW.1
  by_cases h1 : inR x 0 (nI κ.1 - 1) = true
  · by_cases h2 : inR y 0 15 = true
    · by_cases h3 : bitB (κ.2.1 1) x = true
      · obtain ⟨b, hb, rfl⟩ := inB hk h1
        have e : standsK (nI b) y κ = (κ.2.2 2 b, kset κ 2 b y) := by
          unfold standsK
          rw [if_pos h1, if_pos h2, if_pos h3, ix_nI (by omega)]
        refine Tol.yes (κ' := kset κ 2 b y) (by rw [e]; exact stR_yes (place_dn hW (by omega))) ?_
        unfold f_X4_beastStands
        simp only [c_X4_beastStands_31, h1, h2, h3, m_isPlace, m_isBeast, p_hasBit, sA_Y53 w Y hk hb, show ¬ (1 : Int32) = 0 by decide, or_true, gI_Y0, gR_Y1, gR_Y2, gR_Y3, gR_Y4, gR_Y5, gI_Y6, gR_Y7, gR_Y8, gR_Y9, gR_Y10, gI_Y11, gI_Y12, gR_Y13, gR_Y14, gR_Y15, gR_Y16, gR_Y17, gR_Y18, gI_Y19, gI_Y20, gI_Y21, gI_Y22, gI_Y23, gR_Y24, gR_Y25, gR_Y26, gR_Y27, gR_Y28, gI_Y29, gI_Y30, gI_Y31, gR_Y33, gR_Y34, gI_Y35, gR_Y36, cV_Y, bk_some, bind_some', zb_0, zb_1, zb_or, cc_or, kset_1, kset_21, kint_1, kint_21, kint_22, putY_moved, if_true, if_false, not_true_eq_false, not_false_eq_true, Bool.false_eq_true, Bool.true_eq_false, reduceIte, ite_true, ite_false]
      · have e : standsK x y κ = (-3, κ) := by
          unfold standsK
          rw [if_pos h1, if_pos h2, if_neg h3]
        refine Tol.no (by rw [e]; exact stR_no dn_3) ?_
        unfold f_X4_beastStands
        simp only [c_X4_beastStands_31, h1, Bool.eq_false_iff.mpr h3, m_isPlace, m_isBeast, p_hasBit, true_or, gI_Y0, gR_Y1, gR_Y2, gR_Y3, gR_Y4, gR_Y5, gI_Y6, gR_Y7, gR_Y8, gR_Y9, gR_Y10, gI_Y11, gI_Y12, gR_Y13, gR_Y14, gR_Y15, gR_Y16, gR_Y17, gR_Y18, gI_Y19, gI_Y20, gI_Y21, gI_Y22, gI_Y23, gR_Y24, gR_Y25, gR_Y26, gR_Y27, gR_Y28, gI_Y29, gI_Y30, gI_Y31, gR_Y33, gR_Y34, gI_Y35, gR_Y36, cV_Y, bk_some, bind_some', zb_0, zb_1, zb_or, cc_or, kset_1, kset_21, kint_1, kint_21, kint_22, putY_moved, if_true, if_false, not_true_eq_false, not_false_eq_true, Bool.false_eq_true, Bool.true_eq_false, reduceIte, ite_true, ite_false]
    · have e : standsK x y κ = (-1, κ) := by
        unfold standsK
        rw [if_pos h1, if_neg h2]
      refine Tol.no (by rw [e]; exact stR_no dn_1) ?_
      have h2 := Bool.eq_false_iff.mpr h2
      unfold f_X4_beastStands
      by_cases h3 : bitB (κ.2.1 1) x = true
      · simp only [c_X4_beastStands_31, h1, h2, h3, m_isPlace, m_isBeast, p_hasBit, true_or, gI_Y0, gR_Y1, gR_Y2, gR_Y3, gR_Y4, gR_Y5, gI_Y6, gR_Y7, gR_Y8, gR_Y9, gR_Y10, gI_Y11, gI_Y12, gR_Y13, gR_Y14, gR_Y15, gR_Y16, gR_Y17, gR_Y18, gI_Y19, gI_Y20, gI_Y21, gI_Y22, gI_Y23, gR_Y24, gR_Y25, gR_Y26, gR_Y27, gR_Y28, gI_Y29, gI_Y30, gI_Y31, gR_Y33, gR_Y34, gI_Y35, gR_Y36, cV_Y, bk_some, bind_some', zb_0, zb_1, zb_or, cc_or, kset_1, kset_21, kint_1, kint_21, kint_22, putY_moved, if_true, if_false, not_true_eq_false, not_false_eq_true, Bool.false_eq_true, Bool.true_eq_false, reduceIte, ite_true, ite_false]
      · simp only [c_X4_beastStands_31, h1, h2, Bool.eq_false_iff.mpr h3, m_isPlace, m_isBeast, p_hasBit, true_or, gI_Y0, gR_Y1, gR_Y2, gR_Y3, gR_Y4, gR_Y5, gI_Y6, gR_Y7, gR_Y8, gR_Y9, gR_Y10, gI_Y11, gI_Y12, gR_Y13, gR_Y14, gR_Y15, gR_Y16, gR_Y17, gR_Y18, gI_Y19, gI_Y20, gI_Y21, gI_Y22, gI_Y23, gR_Y24, gR_Y25, gR_Y26, gR_Y27, gR_Y28, gI_Y29, gI_Y30, gI_Y31, gR_Y33, gR_Y34, gI_Y35, gR_Y36, cV_Y, bk_some, bind_some', zb_0, zb_1, zb_or, cc_or, kset_1, kset_21, kint_1, kint_21, kint_22, putY_moved, if_true, if_false, not_true_eq_false, not_false_eq_true, Bool.false_eq_true, Bool.true_eq_false, reduceIte, ite_true, ite_false]
  · have e : standsK x y κ = (-1, κ) := by
      unfold standsK
      rw [if_neg h1]
    refine Tol.no (by rw [e]; exact stR_no dn_1) ?_
    unfold f_X4_beastStands
    simp only [c_X4_beastStands_31, Bool.eq_false_iff.mpr h1, m_isBeast, true_or, gI_Y0, gR_Y1, gR_Y2, gR_Y3, gR_Y4, gR_Y5, gI_Y6, gR_Y7, gR_Y8, gR_Y9, gR_Y10, gI_Y11, gI_Y12, gR_Y13, gR_Y14, gR_Y15, gR_Y16, gR_Y17, gR_Y18, gI_Y19, gI_Y20, gI_Y21, gI_Y22, gI_Y23, gR_Y24, gR_Y25, gR_Y26, gR_Y27, gR_Y28, gI_Y29, gI_Y30, gI_Y31, gR_Y33, gR_Y34, gI_Y35, gR_Y36, cV_Y, bk_some, bind_some', zb_0, zb_1, zb_or, cc_or, kset_1, kset_21, kint_1, kint_21, kint_22, putY_moved, if_true, if_false, not_true_eq_false, not_false_eq_true, Bool.false_eq_true, Bool.true_eq_false, reduceIte, ite_true, ite_false]
theorem tol_answers (w : aW) (Y : aY) {κ : aK} (hW : WF κ) (x : Int32) : Tol w κ Y (f_X4_letComes 50 x (putY w κ Y)) (stR (answersK x κ)) := by
  have hk := hW.1
  by_cases h1 : inR x 0 (nI κ.1 - 1) = true
  · obtain ⟨b, hb, rfl⟩ := inB hk h1
    have hb9 : b < 9 := by omega
    have hn4 := neg_m4 hW hb9
    by_cases h2 : κ.2.2 4 b = -4
    · have e : answersK (nI b) κ = (-3, κ) := by
        unfold answersK
        rw [if_pos h1, ix_nI (by omega), if_neg (fun z => z h2)]
      refine Tol.no (by rw [e]; exact stR_no dn_3) ?_
      unfold f_X4_letComes
      simp only [c_X4_letComes_22, h1, m_isBeast, gA_Y55 w Y hk hb, hn4, h2, true_or, m4_lt, gI_Y0, gR_Y1, gR_Y2, gR_Y3, gR_Y4, gR_Y5, gI_Y6, gR_Y7, gR_Y8, gR_Y9, gR_Y10, gI_Y11, gI_Y12, gR_Y13, gR_Y14, gR_Y15, gR_Y16, gR_Y17, gR_Y18, gI_Y19, gI_Y20, gI_Y21, gI_Y22, gI_Y23, gR_Y24, gR_Y25, gR_Y26, gR_Y27, gR_Y28, gI_Y29, gI_Y30, gI_Y31, gR_Y33, gR_Y34, gI_Y35, gR_Y36, cV_Y, bk_some, bind_some', zb_0, zb_1, zb_or, cc_or, kset_1, kset_21, kint_1, kint_21, kint_22, putY_moved, if_true, if_false, not_true_eq_false, not_false_eq_true, Bool.false_eq_true, Bool.true_eq_false, reduceIte, ite_true, ite_false]
    · have e : answersK (nI b) κ = (κ.2.2 4 b, kset κ 4 b (-4)) := by
        unfold answersK
        rw [if_pos h1, ix_nI (by omega), if_pos h2]
      refine Tol.yes (κ' := kset κ 4 b (-4)) (by rw [e]; exact stR_yes (caller_dn hW hb9)) ?_
      unfold f_X4_letComes
      simp only [c_X4_letComes_22, h1, m_isBeast, gA_Y55 w Y hk hb, sA_Y55 w Y hk hb, hn4, h2, show ¬ (1 : Int32) = 0 by decide, or_true, gI_Y0, gR_Y1, gR_Y2, gR_Y3, gR_Y4, gR_Y5, gI_Y6, gR_Y7, gR_Y8, gR_Y9, gR_Y10, gI_Y11, gI_Y12, gR_Y13, gR_Y14, gR_Y15, gR_Y16, gR_Y17, gR_Y18, gI_Y19, gI_Y20, gI_Y21, gI_Y22, gI_Y23, gR_Y24, gR_Y25, gR_Y26, gR_Y27, gR_Y28, gI_Y29, gI_Y30, gI_Y31, gR_Y33, gR_Y34, gI_Y35, gR_Y36, cV_Y, bk_some, bind_some', zb_0, zb_1, zb_or, cc_or, kset_1, kset_21, kint_1, kint_21, kint_22, putY_moved, if_true, if_false, not_true_eq_false, not_false_eq_true, Bool.false_eq_true, Bool.true_eq_false, reduceIte, ite_true, ite_false]
  · have e : answersK x κ = (-1, κ) := by
      unfold answersK
      rw [if_neg h1]
    refine Tol.no (by rw [e]; exact stR_no dn_1) ?_
    unfold f_X4_letComes
    simp only [c_X4_letComes_22, Bool.eq_false_iff.mpr h1, m_isBeast, true_or, gI_Y0, gR_Y1, gR_Y2, gR_Y3, gR_Y4, gR_Y5, gI_Y6, gR_Y7, gR_Y8, gR_Y9, gR_Y10, gI_Y11, gI_Y12, gR_Y13, gR_Y14, gR_Y15, gR_Y16, gR_Y17, gR_Y18, gI_Y19, gI_Y20, gI_Y21, gI_Y22, gI_Y23, gR_Y24, gR_Y25, gR_Y26, gR_Y27, gR_Y28, gI_Y29, gI_Y30, gI_Y31, gR_Y33, gR_Y34, gI_Y35, gR_Y36, cV_Y, bk_some, bind_some', zb_0, zb_1, zb_or, cc_or, kset_1, kset_21, kint_1, kint_21, kint_22, putY_moved, if_true, if_false, not_true_eq_false, not_false_eq_true, Bool.false_eq_true, Bool.true_eq_false, reduceIte, ite_true, ite_false]
theorem tol_days (w : aW) (Y : aY) {κ : aK} (hW : WF κ) (hs : Y.1 0 = 0) (x : Int32) : Tol w κ Y (f_X4_daysCome 50 x (putY w κ Y)) (stR (daysOp x κ)) := by
  have e1 := p_in32 (x := x) (a := 1) (b := 60) (a' := 1) (b' := 60) rfl rfl
  by_cases h1 : inR x 1 60 = true
  · by_cases h2 : κ.2.1 0 + x ≤ 999
    · obtain ⟨n, hn, rfl⟩ := in60 h1
      have e : daysOp (nI n) κ = (popI ((daysK n κ).2.1 1), daysK n κ) := by
        unfold daysOp
        rw [if_pos h1, if_pos h2, ix_nI (by omega)]
      have hdn : dnB (popI ((daysK n κ).2.1 1)) = true := by
        obtain ⟨a, ha, hA⟩ := (days_WF hW n).2.2.2.1
        rw [hA, (pop_rng a ha).1]
        exact dn_n (by have := (pop_rng a ha).2; omega)
      refine Tol.yes (κ' := daysK n κ) (by rw [e]; exact stR_yes hdn) ?_
      have h2' := Int32.not_lt.mpr h2
      unfold f_X4_daysCome
      simp only [c_X4_daysCome_29, e1, h1, h2', m_goDays w Y hW hs (show n < 1000 by omega), show ¬ (1 : Int32) = 0 by decide, or_true, gI_Y0, gR_Y1, gR_Y2, gR_Y3, gR_Y4, gR_Y5, gI_Y6, gR_Y7, gR_Y8, gR_Y9, gR_Y10, gI_Y11, gI_Y12, gR_Y13, gR_Y14, gR_Y15, gR_Y16, gR_Y17, gR_Y18, gI_Y19, gI_Y20, gI_Y21, gI_Y22, gI_Y23, gR_Y24, gR_Y25, gR_Y26, gR_Y27, gR_Y28, gI_Y29, gI_Y30, gI_Y31, gR_Y33, gR_Y34, gI_Y35, gR_Y36, cV_Y, bk_some, bind_some', zb_0, zb_1, zb_or, cc_or, kset_1, kset_21, kint_1, kint_21, kint_22, putY_moved, if_true, if_false, not_true_eq_false, not_false_eq_true, Bool.false_eq_true, Bool.true_eq_false, reduceIte, ite_true, ite_false]
    · have e : daysOp x κ = (-3, κ) := by
        unfold daysOp
        rw [if_pos h1, if_neg h2]
      refine Tol.no (by rw [e]; exact stR_no dn_3) ?_
      have h2' := Int32.not_le.mp h2
      unfold f_X4_daysCome
      simp only [c_X4_daysCome_29, e1, h1, h2', true_or, gI_Y0, gR_Y1, gR_Y2, gR_Y3, gR_Y4, gR_Y5, gI_Y6, gR_Y7, gR_Y8, gR_Y9, gR_Y10, gI_Y11, gI_Y12, gR_Y13, gR_Y14, gR_Y15, gR_Y16, gR_Y17, gR_Y18, gI_Y19, gI_Y20, gI_Y21, gI_Y22, gI_Y23, gR_Y24, gR_Y25, gR_Y26, gR_Y27, gR_Y28, gI_Y29, gI_Y30, gI_Y31, gR_Y33, gR_Y34, gI_Y35, gR_Y36, cV_Y, bk_some, bind_some', zb_0, zb_1, zb_or, cc_or, kset_1, kset_21, kint_1, kint_21, kint_22, putY_moved, if_true, if_false, not_true_eq_false, not_false_eq_true, Bool.false_eq_true, Bool.true_eq_false, reduceIte, ite_true, ite_false]
  · have e : daysOp x κ = (-1, κ) := by
      unfold daysOp
      rw [if_neg h1]
    refine Tol.no (by rw [e]; exact stR_no dn_1) ?_
    unfold f_X4_daysCome
    simp only [c_X4_daysCome_29, e1, Bool.eq_false_iff.mpr h1, true_or, gI_Y0, gR_Y1, gR_Y2, gR_Y3, gR_Y4, gR_Y5, gI_Y6, gR_Y7, gR_Y8, gR_Y9, gR_Y10, gI_Y11, gI_Y12, gR_Y13, gR_Y14, gR_Y15, gR_Y16, gR_Y17, gR_Y18, gI_Y19, gI_Y20, gI_Y21, gI_Y22, gI_Y23, gR_Y24, gR_Y25, gR_Y26, gR_Y27, gR_Y28, gI_Y29, gI_Y30, gI_Y31, gR_Y33, gR_Y34, gI_Y35, gR_Y36, cV_Y, bk_some, bind_some', zb_0, zb_1, zb_or, cc_or, kset_1, kset_21, kint_1, kint_21, kint_22, putY_moved, if_true, if_false, not_true_eq_false, not_false_eq_true, Bool.false_eq_true, Bool.true_eq_false, reduceIte, ite_true, ite_false]
theorem tol_beast (w : aW) (Y : aY) {κ : aK} (hk : κ.1 ≤ 9) {s f : Nat} (hs : s ≤ 9) (hf : f ≤ 9) (x : Int32) : Tol w κ Y (f_X4_beastComes 50 (nI s) (nI f) x (putY w κ Y)) (stR (addK (nI s) (nI f) x κ)) := by
  have hb := m_beastComes w Y hk (nI s) (nI f) x
  have hf9 : inR (nI f) 0 9 = true := inR_of (n := 9) hf (by decide)
  have hs8 : (nI s < 8) = (s < 8) := propext (nI_ltI (a := s) (b := 8) (by omega) (by decide))
  by_cases h1 : s < 8
  · have h17 : inR (nI s) 0 7 = true := inR_of (n := 7) (by omega) (by decide)
    by_cases h2 : inR x 0 15 = true
    · by_cases h3 : κ.1 < 9
      · rw [if_pos ⟨hs8 ▸ h1, h2, h3⟩] at hb
        have e : addK (nI s) (nI f) x κ = (nI κ.1, newK κ (nI s) (nI f) x) := by
          unfold addK
          rw [if_pos h17, if_pos hf9, if_pos h2, if_pos h3]
        refine ⟨fun κ' e' => ?_, fun e' => ?_⟩
        · rw [e, stR_yes (r := (nI κ.1, newK κ (nI s) (nI f) x)) (dn_n (show κ.1 < 2 ^ 31 by omega))] at e'
          cases e'
          exact hb
        · rw [e, stR_yes (r := (nI κ.1, newK κ (nI s) (nI f) x)) (dn_n (show κ.1 < 2 ^ 31 by omega))] at e'
          cases e'
      · rw [if_neg (fun z => h3 z.2.2)] at hb
        refine Tol.no ?_ hb
        unfold addK
        rw [if_pos h17, if_pos hf9, if_pos h2, if_neg h3]
        exact stR_no dn_2
    · rw [if_neg (fun z => h2 z.2.1)] at hb
      refine Tol.no ?_ hb
      unfold addK
      rw [if_pos h17, if_pos hf9, if_neg h2]
      exact stR_no dn_1
  · rw [if_neg (fun z => h1 (hs8 ▸ z.1))] at hb
    refine Tol.no ?_ hb
    have h17 : ¬ inR (nI s) 0 7 = true := fun z => by
      obtain ⟨i, hi, e⟩ := inR_nI (n := 7) (by decide) z
      rw [nI_eq (by omega) (by omega)] at e
      omega
    unfold addK
    rw [if_neg h17]
    exact stR_no dn_1
theorem tol_person (w : aW) (Y : aY) {κ : aK} (hW : WF κ) {j : Nat} (hj : 4 * j + 3 < 204) (t0 t2 : Int32) {t v : Nat} (ht : t ≤ 9) (hv : v ≤ 999) (k0 : Y.2.1 7 (4 * j) = t0) (k1 : Y.2.1 7 (4 * j + 1) = nI t) (k2 : Y.2.1 7 (4 * j + 2) = t2) (k3 : Y.2.1 7 (4 * j + 3) = nI v) : Tol w κ Y (f_X4_personComes 50 (nI (4 * j)) (putY w κ Y)) ((stR (tongueK t0 (nI t) κ)).bind fun κ1 => (stR (walksK t0 t2 κ1)).bind fun κ2 => stR (meansK t0 (nI v) κ2)) := by
  have g0 := gA_Y68 w κ Y (show 4 * j < 204 by omega)
  have g1 := fun κ => gA_Y68 w κ Y (show 4 * j + 1 < 204 by omega)
  have g2 := fun κ => gA_Y68 w κ Y (show 4 * j + 2 < 204 by omega)
  have g3 := fun κ => gA_Y68 w κ Y hj
  by_cases h1 : inR t0 0 4 = true
  · obtain ⟨p, hp, rfl⟩ := inP h1
    obtain ⟨m, hm, em⟩ := (hW.2.2.1 p hp).1
    obtain ⟨x, hx, ex⟩ := (hW.2.2.1 p hp).2.1
    obtain ⟨u, hu, eu⟩ := (hW.2.2.1 p hp).2.2.1
    have hpi : ix (nI p) = p := ix_nI (by omega)
    by_cases h2 : t < 4
    · have h23 : inR (nI t) 0 3 = true := inR_of (n := 3) (by omega) (by decide)
      have h24 : ¬ (4 : Int32) ≤ nI t := nI_ge h2 (by decide)
      have e1 : stR (tongueK (nI p) (nI t) κ) = some (kset κ 7 p (nI t)) := by
        unfold tongueK
        rw [if_pos h1, if_pos h23, hpi, eu]
        exact stR_yes (dn_n (by omega))
      rw [e1]
      simp only [Option.bind_some]
      by_cases h3 : inR t2 0 15 = true
      · have e2 : stR (walksK (nI p) t2 (kset κ 7 p (nI t))) = some (kset (kset κ 7 p (nI t)) 6 p t2) := by
          unfold walksK
          rw [if_pos h1, if_pos h3, hpi, show (kset κ 7 p (nI t)).2.2 6 p = nI x by rw [kset_22, if_neg (by omega)]; exact ex]
          exact stR_yes (dn_n (by omega))
        rw [e2]
        simp only [Option.bind_some]
        have e3 : stR (meansK (nI p) (nI v) (kset (kset κ 7 p (nI t)) 6 p t2)) = some (kset (kset (kset κ 7 p (nI t)) 6 p t2) 5 p (nI v)) := by
          unfold meansK
          rw [if_pos h1, if_pos (show inR (nI v) 0 999 = true from inR_of (n := 999) hv (by decide)), hpi, show (kset (kset κ 7 p (nI t)) 6 p t2).2.2 5 p = nI m by rw [kset_22, if_neg (by omega), kset_22, if_neg (by omega)]; exact em]
          exact stR_yes (dn_n (by omega))
        refine Tol.yes e3 ?_
        unfold f_X4_personComes
        simp only [c_X4_personComes_45, gI_Y0, gR_Y1, gR_Y2, gR_Y3, gR_Y4, gR_Y5, gI_Y6, gR_Y7, gR_Y8, gR_Y9, gR_Y10, gI_Y11, gI_Y12, gR_Y13, gR_Y14, gR_Y15, gR_Y16, gR_Y17, gR_Y18, gI_Y19, gI_Y20, gI_Y21, gI_Y22, gI_Y23, gR_Y24, gR_Y25, gR_Y26, gR_Y27, gR_Y28, gI_Y29, gI_Y30, gI_Y31, gR_Y33, gR_Y34, gI_Y35, gR_Y36, cV_Y, bk_some, bind_some', zb_0, zb_1, zb_or, cc_or, kset_1, kset_21, kint_1, kint_21, kint_22, putY_moved, g0, g1, g2, g3, k0, k1, k2, k3, m_isPerson, h1, h24, m_isPlace, h3, nI_1, nI_2, npl3, sA_Y58 w _ _ hp, sA_Y57 w _ _ hp, sA_Y56 w _ _ hp, show ¬ (1 : Int32) = 0 by decide, or_true, if_true, if_false, not_true_eq_false, not_false_eq_true, Bool.false_eq_true, Bool.true_eq_false, reduceIte, ite_true, ite_false]
      · have e2 : stR (walksK (nI p) t2 (kset κ 7 p (nI t))) = none := by
          unfold walksK
          rw [if_pos h1, if_neg h3]
          exact stR_no dn_1
        rw [e2]
        refine Tol.no rfl ?_
        unfold f_X4_personComes
        simp only [c_X4_personComes_45, gI_Y0, gR_Y1, gR_Y2, gR_Y3, gR_Y4, gR_Y5, gI_Y6, gR_Y7, gR_Y8, gR_Y9, gR_Y10, gI_Y11, gI_Y12, gR_Y13, gR_Y14, gR_Y15, gR_Y16, gR_Y17, gR_Y18, gI_Y19, gI_Y20, gI_Y21, gI_Y22, gI_Y23, gR_Y24, gR_Y25, gR_Y26, gR_Y27, gR_Y28, gI_Y29, gI_Y30, gI_Y31, gR_Y33, gR_Y34, gI_Y35, gR_Y36, cV_Y, bk_some, bind_some', zb_0, zb_1, zb_or, cc_or, kset_1, kset_21, kint_1, kint_21, kint_22, putY_moved, g0, g1, g2, g3, k0, k1, k2, k3, m_isPerson, h1, h24, m_isPlace, Bool.eq_false_iff.mpr h3, nI_1, nI_2, true_or, if_true, if_false, not_true_eq_false, not_false_eq_true, Bool.false_eq_true, Bool.true_eq_false, reduceIte, ite_true, ite_false]
    · have h23 : ¬ inR (nI t) 0 3 = true := fun z => by
        obtain ⟨i, hi, e⟩ := inR_nI (n := 3) (by decide) z
        rw [nI_eq (by omega) (by omega)] at e
        omega
      have h24 : (4 : Int32) ≤ nI t := (nI_leI (a := 4) (by decide) (by omega)).mpr (by omega)
      have e1 : stR (tongueK (nI p) (nI t) κ) = none := by
        unfold tongueK
        rw [if_pos h1, if_neg h23]
        exact stR_no dn_1
      rw [e1]
      refine Tol.no rfl ?_
      unfold f_X4_personComes
      simp only [c_X4_personComes_45, gI_Y0, gR_Y1, gR_Y2, gR_Y3, gR_Y4, gR_Y5, gI_Y6, gR_Y7, gR_Y8, gR_Y9, gR_Y10, gI_Y11, gI_Y12, gR_Y13, gR_Y14, gR_Y15, gR_Y16, gR_Y17, gR_Y18, gI_Y19, gI_Y20, gI_Y21, gI_Y22, gI_Y23, gR_Y24, gR_Y25, gR_Y26, gR_Y27, gR_Y28, gI_Y29, gI_Y30, gI_Y31, gR_Y33, gR_Y34, gI_Y35, gR_Y36, cV_Y, bk_some, bind_some', zb_0, zb_1, zb_or, cc_or, kset_1, kset_21, kint_1, kint_21, kint_22, putY_moved, g0, g1, k0, k1, m_isPerson, h1, h24, nI_1, true_or, if_true, if_false, not_true_eq_false, not_false_eq_true, Bool.false_eq_true, Bool.true_eq_false, reduceIte, ite_true, ite_false]
  · have e1 : stR (tongueK t0 (nI t) κ) = none := by
      unfold tongueK
      rw [if_neg h1]
      exact stR_no dn_1
    rw [e1]
    refine Tol.no rfl ?_
    unfold f_X4_personComes
    simp only [c_X4_personComes_45, gI_Y0, gR_Y1, gR_Y2, gR_Y3, gR_Y4, gR_Y5, gI_Y6, gR_Y7, gR_Y8, gR_Y9, gR_Y10, gI_Y11, gI_Y12, gR_Y13, gR_Y14, gR_Y15, gR_Y16, gR_Y17, gR_Y18, gI_Y19, gI_Y20, gI_Y21, gI_Y22, gI_Y23, gR_Y24, gR_Y25, gR_Y26, gR_Y27, gR_Y28, gI_Y29, gI_Y30, gI_Y31, gR_Y33, gR_Y34, gI_Y35, gR_Y36, cV_Y, bk_some, bind_some', zb_0, zb_1, zb_or, cc_or, kset_1, kset_21, kint_1, kint_21, kint_22, putY_moved, g0, k0, m_isPerson, Bool.eq_false_iff.mpr h1, true_or, if_true, if_false, not_true_eq_false, not_false_eq_true, Bool.false_eq_true, Bool.true_eq_false, reduceIte, ite_true, ite_false]
theorem dg_val {x : Int32} (h : dgB x = true) : ∃ e, e ≤ 9 ∧ x = nI (48 + e) := by
  unfold dgB inR at h
  rw [Bool.and_eq_true, decide_eq_true_eq, decide_eq_true_eq] at h
  obtain ⟨m, hm, rfl⟩ := inR_nI (x := x) (n := 57) (by decide) (by
    unfold inR
    rw [decide_eq_true (Int32.le_trans (by decide) h.1), decide_eq_true (show x ≤ nI 57 from h.2)]
    rfl)
  have h1 := h.1
  rw [show (48 : Int32) = nI 48 from rfl, le_nI (by decide) (by omega)] at h1
  exact ⟨m - 48, by omega, by rw [show 48 + (m - 48) = m by omega]⟩
theorem at_dig {ν : aS} {q c z : Nat} (h : bdF ν q c = none) (h1 : q ≤ z) (h2 : z < q + c) : ∃ e, e ≤ 9 ∧ atN ν z = nI (48 + e) := by
  have := fnd_none h z h1 h2
  refine dg_val ?_
  cases hd : dgB (atN ν z)
  · rw [hd] at this; cases this
  · rfl
theorem nm_1 {ν : aS} {q : Nat} {e : Nat} (h : atN ν q = nI (48 + e)) : nmK ν q 1 = nI e := by
  rw [← (rd_nm q).1]
  show 10 * 0 + atN ν q - 48 = _
  rw [h, show (10 : Int32) * 0 = nI 0 from rfl, show (48 : Int32) = nI 48 from rfl, nI_add, nI_sub (by omega)]
  exact congrArg nI (by omega)
theorem nm_2 {ν : aS} {q : Nat} {e1 e2 : Nat} (h1 : atN ν q = nI (48 + e1)) (h2 : atN ν (q + 1) = nI (48 + e2)) : nmK ν q 2 = nI (10 * e1 + e2) := by
  rw [← (rd_nm q).2.1]
  show 10 * (10 * 0 + atN ν q - 48) + atN ν (q + 1) - 48 = _
  rw [h1, h2, show (10 : Int32) * 0 = nI 0 from rfl, show (48 : Int32) = nI 48 from rfl, nI_add, nI_sub (by omega), show (10 : Int32) = nI 10 from rfl, pk_mul, nI_add, nI_sub (by omega)]
  exact congrArg nI (by omega)
theorem nm_3 {ν : aS} {q : Nat} {e1 e2 e3 : Nat} (h1 : atN ν q = nI (48 + e1)) (h2 : atN ν (q + 1) = nI (48 + e2)) (h3 : atN ν (q + 2) = nI (48 + e3)) : nmK ν q 3 = nI (100 * e1 + 10 * e2 + e3) := by
  rw [← (rd_nm q).2.2]
  show 10 * (10 * (10 * 0 + atN ν q - 48) + atN ν (q + 1) - 48) + atN ν (q + 2) - 48 = _
  rw [h1, h2, h3, show (10 : Int32) * 0 = nI 0 from rfl, show (48 : Int32) = nI 48 from rfl, nI_add, nI_sub (by omega), show (10 : Int32) = nI 10 from rfl, pk_mul, nI_add, nI_sub (by omega), pk_mul, nI_add, nI_sub (by omega)]
  exact congrArg nI (by omega)
theorem m_told (w : aW) {κ : aK} (hW : WF κ) {Y : aY} (hs : Y.1 0 = 0) {ν : aS} {p j : Nat} (hj : j < 51) (h6 : Y.2.1 6 j = atN ν p) (ht : toldOk ν p Y j) (hb : badIn ν p = none) : Tol w κ Y (f_X4_comesTold 50 (nI j) (putY w κ Y)) (stK ν p κ) := by
  obtain ⟨hl, hd, -⟩ := bad_none hb
  have g0 := gA_Y68 w κ Y (show 4 * j < 204 by omega)
  have g1 := gA_Y68 w κ Y (show 4 * j + 1 < 204 by omega)
  have g2 := gA_Y68 w κ Y (show 4 * j + 2 < 204 by omega)
  have g6 := gA_Y67 w κ Y hj
  have hor : ∀ x : Int32, ¬ (x = 0 ∨ x = 1) → ¬ (x = 1) := fun x h z => h (Or.inr z)
  have fin : ∀ (f : Option (Int32 × aW)) (o : Option aK), Tol w κ Y f o → Tol w κ Y (bk f fun x11 w10 => if ¬ (x11 = 0 ∨ x11 = 1) then none else some (x11, w10)) o := by
    intro f o hT
    refine ⟨fun κ' e => ?_, fun e => ?_⟩
    · obtain ⟨J, hJ⟩ := hT.1 κ' e
      refine ⟨J, ?_⟩
      rw [hJ, bk_some, if_neg (fun z => z (Or.inr rfl))]
    · rw [hT.2 e, bk_some, if_neg (fun z => z (Or.inl rfl))]
  obtain ⟨t98, t99, t100, t103, t112, t117⟩ := ht
  unfold stK f_X4_comesTold
  rcases dig_cases hl with hc | hc | hc | hc | hc | hc
  · obtain ⟨a0, a1, a2⟩ := t98 hc
    rw [hc] at hd
    obtain ⟨e1, h1, v1⟩ := at_dig hd (z := p + 1) (by omega) (show p + 1 < p + 1 + 4 by omega)
    obtain ⟨e2, h2, v2⟩ := at_dig hd (z := p + 2) (by omega) (show p + 2 < p + 1 + 4 by omega)
    rw [if_pos hc]
    have hT := tol_beast w Y hW.1 h1 h2 (nmK ν (p + 3) 2)
    rw [← nm_1 v1, ← nm_1 v2] at hT
    simp only [gI_Y0, gR_Y1, gR_Y2, gR_Y3, gR_Y4, gR_Y5, gI_Y6, gR_Y7, gR_Y8, gR_Y9, gR_Y10, gI_Y11, gI_Y12, gR_Y13, gR_Y14, gR_Y15, gR_Y16, gR_Y17, gR_Y18, gI_Y19, gI_Y20, gI_Y21, gI_Y22, gI_Y23, gR_Y24, gR_Y25, gR_Y26, gR_Y27, gR_Y28, gI_Y29, gI_Y30, gI_Y31, gR_Y33, gR_Y34, gI_Y35, gR_Y36, cV_Y, bk_some, bind_some', zb_0, zb_1, zb_or, cc_or, kset_1, kset_21, kint_1, kint_21, kint_22, putY_moved, m_four, nI_1, nI_2, g0, g1, g2, g6, h6, hc, a0, a1, a2, if_true, if_false, not_true_eq_false, not_false_eq_true, Bool.false_eq_true, Bool.true_eq_false, reduceIte, ite_true, ite_false]
    exact fin _ _ hT
  · obtain ⟨a0, a1⟩ := t99 hc
    rw [if_neg (ne_c hc (by decide)), if_pos hc]
    have hT := tol_calls w Y hW (nmK ν (p + 1) 1) (nmK ν (p + 2) 1)
    simp (decide := true) only [gI_Y0, gR_Y1, gR_Y2, gR_Y3, gR_Y4, gR_Y5, gI_Y6, gR_Y7, gR_Y8, gR_Y9, gR_Y10, gI_Y11, gI_Y12, gR_Y13, gR_Y14, gR_Y15, gR_Y16, gR_Y17, gR_Y18, gI_Y19, gI_Y20, gI_Y21, gI_Y22, gI_Y23, gR_Y24, gR_Y25, gR_Y26, gR_Y27, gR_Y28, gI_Y29, gI_Y30, gI_Y31, gR_Y33, gR_Y34, gI_Y35, gR_Y36, cV_Y, bk_some, bind_some', zb_0, zb_1, zb_or, cc_or, kset_1, kset_21, kint_1, kint_21, kint_22, putY_moved, m_four, nI_1, nI_2, g0, g1, g2, g6, h6, hc, a0, a1, if_true, if_false, not_true_eq_false, not_false_eq_true, Bool.false_eq_true, Bool.true_eq_false, reduceIte, ite_true, ite_false]
    exact fin _ _ hT
  · have a0 := t100 hc
    rw [if_neg (ne_c hc (by decide)), if_neg (ne_c hc (by decide)), if_pos hc]
    have hT := tol_days w Y hW hs (nmK ν (p + 1) 2)
    simp (decide := true) only [gI_Y0, gR_Y1, gR_Y2, gR_Y3, gR_Y4, gR_Y5, gI_Y6, gR_Y7, gR_Y8, gR_Y9, gR_Y10, gI_Y11, gI_Y12, gR_Y13, gR_Y14, gR_Y15, gR_Y16, gR_Y17, gR_Y18, gI_Y19, gI_Y20, gI_Y21, gI_Y22, gI_Y23, gR_Y24, gR_Y25, gR_Y26, gR_Y27, gR_Y28, gI_Y29, gI_Y30, gI_Y31, gR_Y33, gR_Y34, gI_Y35, gR_Y36, cV_Y, bk_some, bind_some', zb_0, zb_1, zb_or, cc_or, kset_1, kset_21, kint_1, kint_21, kint_22, putY_moved, m_four, nI_1, nI_2, g0, g1, g2, g6, h6, hc, a0, if_true, if_false, not_true_eq_false, not_false_eq_true, Bool.false_eq_true, Bool.true_eq_false, reduceIte, ite_true, ite_false]
    exact fin _ _ hT
  · obtain ⟨a0, a2⟩ := t103 hc
    rw [if_neg (ne_c hc (by decide)), if_neg (ne_c hc (by decide)), if_neg (ne_c hc (by decide)), if_pos hc]
    have hT := tol_stands w Y hW (nmK ν (p + 1) 1) (nmK ν (p + 2) 2)
    simp (decide := true) only [gI_Y0, gR_Y1, gR_Y2, gR_Y3, gR_Y4, gR_Y5, gI_Y6, gR_Y7, gR_Y8, gR_Y9, gR_Y10, gI_Y11, gI_Y12, gR_Y13, gR_Y14, gR_Y15, gR_Y16, gR_Y17, gR_Y18, gI_Y19, gI_Y20, gI_Y21, gI_Y22, gI_Y23, gR_Y24, gR_Y25, gR_Y26, gR_Y27, gR_Y28, gI_Y29, gI_Y30, gI_Y31, gR_Y33, gR_Y34, gI_Y35, gR_Y36, cV_Y, bk_some, bind_some', zb_0, zb_1, zb_or, cc_or, kset_1, kset_21, kint_1, kint_21, kint_22, putY_moved, m_four, nI_1, nI_2, g0, g1, g2, g6, h6, hc, a0, a2, if_true, if_false, not_true_eq_false, not_false_eq_true, Bool.false_eq_true, Bool.true_eq_false, reduceIte, ite_true, ite_false]
    exact fin _ _ hT
  · obtain ⟨a0, a1, a2, a3⟩ := t112 hc
    rw [hc] at hd
    obtain ⟨e2, h2, v2⟩ := at_dig hd (z := p + 2) (by omega) (show p + 2 < p + 1 + 7 by omega)
    obtain ⟨e5, h5, v5⟩ := at_dig hd (z := p + 5) (by omega) (show p + 5 < p + 1 + 7 by omega)
    obtain ⟨e6, h6', v6⟩ := at_dig hd (z := p + 6) (by omega) (show p + 6 < p + 1 + 7 by omega)
    obtain ⟨e7, h7, v7⟩ := at_dig hd (z := p + 7) (by omega) (show p + 7 < p + 1 + 7 by omega)
    rw [if_neg (ne_c hc (by decide)), if_neg (ne_c hc (by decide)), if_neg (ne_c hc (by decide)), if_neg (ne_c hc (by decide)), if_pos hc]
    have hT := tol_person w Y hW (j := j) (by omega) (nmK ν (p + 1) 1) (nmK ν (p + 3) 2) (t := e2) (v := 100 * e5 + 10 * e6 + e7) h2 (by omega) a0 (a1.trans (nm_1 v2)) a2 (a3.trans (nm_3 v5 v6 v7))
    rw [← nm_1 v2, ← nm_3 v5 v6 v7] at hT
    simp (decide := true) only [gI_Y0, gR_Y1, gR_Y2, gR_Y3, gR_Y4, gR_Y5, gI_Y6, gR_Y7, gR_Y8, gR_Y9, gR_Y10, gI_Y11, gI_Y12, gR_Y13, gR_Y14, gR_Y15, gR_Y16, gR_Y17, gR_Y18, gI_Y19, gI_Y20, gI_Y21, gI_Y22, gI_Y23, gR_Y24, gR_Y25, gR_Y26, gR_Y27, gR_Y28, gI_Y29, gI_Y30, gI_Y31, gR_Y33, gR_Y34, gI_Y35, gR_Y36, cV_Y, bk_some, bind_some', zb_0, zb_1, zb_or, cc_or, kset_1, kset_21, kint_1, kint_21, kint_22, putY_moved, m_four, nI_1, nI_2, g0, g1, g2, g6, h6, hc, a0, if_true, if_false, not_true_eq_false, not_false_eq_true, Bool.false_eq_true, Bool.true_eq_false, reduceIte, ite_true, ite_false]
    exact fin _ _ hT
  · have a0 := t117 hc
    rw [if_neg (ne_c hc (by decide)), if_neg (ne_c hc (by decide)), if_neg (ne_c hc (by decide)), if_neg (ne_c hc (by decide)), if_neg (ne_c hc (by decide)), if_pos hc]
    have hT := tol_answers w Y hW (nmK ν (p + 1) 1)
    simp (decide := true) only [gI_Y0, gR_Y1, gR_Y2, gR_Y3, gR_Y4, gR_Y5, gI_Y6, gR_Y7, gR_Y8, gR_Y9, gR_Y10, gI_Y11, gI_Y12, gR_Y13, gR_Y14, gR_Y15, gR_Y16, gR_Y17, gR_Y18, gI_Y19, gI_Y20, gI_Y21, gI_Y22, gI_Y23, gR_Y24, gR_Y25, gR_Y26, gR_Y27, gR_Y28, gI_Y29, gI_Y30, gI_Y31, gR_Y33, gR_Y34, gI_Y35, gR_Y36, cV_Y, bk_some, bind_some', zb_0, zb_1, zb_or, cc_or, kset_1, kset_21, kint_1, kint_21, kint_22, putY_moved, m_four, nI_1, nI_2, g0, g1, g2, g6, h6, hc, a0, if_true, if_false, not_true_eq_false, not_false_eq_true, Bool.false_eq_true, Bool.true_eq_false, reduceIte, ite_true, ite_false]
    exact fin _ _ hT
theorem runY (w : aW) {κ0 : aK} (hk9 : κ0.1 ≤ 9) (x : Int32) {ν : aS} {M : Nat} (hM : M ≤ 51) (hb : ∀ i, i < M → badIn ν (stP ν i) = none) : ∀ (m j : Nat) (κ : aK) (Y : aY) (n : Nat), j + m = M → m < n → WF κ → CA κ → Y.1 0 = 0 → Y.1 5 = nI M → Red ν Y M → Kept Y 8 κ0 → (∀ j', runK ν m j κ = .inl j' → ∃ Y', Yk Y Y' ∧ loop2 (c_X4_mountain_113 50 x) n (nI j) (putY w κ Y) = some (-2000 - nI (stP ν j'), putY w κ0 Y')) ∧ (∀ κ', runK ν m j κ = .inr κ' → ∃ Y', Yk Y Y' ∧ loop2 (c_X4_mountain_113 50 x) n (nI j) (putY w κ Y) = some (nI M, putY w κ' Y'))
  | 0, j, κ, Y, n + 1, hj, _, hW, hC, hs, h5, hR, hK => by
    have : j = M := by omega
    subst this
    refine ⟨fun j' h => (by cases h), fun κ' h => ⟨Y, Yk.refl Y, ?_⟩⟩
    have h : (Sum.inr κ : Nat ⊕ aK) = .inr κ' := h
    have e : κ = κ' := by injection h
    subst e
    show c_X4_mountain_113 50 x (loop2 (c_X4_mountain_113 50 x) n) (nI j) (putY w κ Y) = _
    simp only [c_X4_mountain_113, gI_Y0, gR_Y1, gR_Y2, gR_Y3, gR_Y4, gR_Y5, gI_Y6, gR_Y7, gR_Y8, gR_Y9, gR_Y10, gI_Y11, gI_Y12, gR_Y13, gR_Y14, gR_Y15, gR_Y16, gR_Y17, gR_Y18, gI_Y19, gI_Y20, gI_Y21, gI_Y22, gI_Y23, gR_Y24, gR_Y25, gR_Y26, gR_Y27, gR_Y28, gI_Y29, gI_Y30, gI_Y31, gR_Y33, gR_Y34, gI_Y35, gR_Y36, cV_Y, bk_some, bind_some', zb_0, zb_1, zb_or, cc_or, kset_1, kset_21, kint_1, kint_21, kint_22, putY_moved, h5, Int32.le_refl, if_true, if_false, not_true_eq_false, not_false_eq_true, Bool.false_eq_true, Bool.true_eq_false, reduceIte, ite_true, ite_false]
  | m + 1, j, κ, Y, n + 1, hj, hn, hW, hC, hs, h5, hR, hK => by
    have hlt : ¬ nI M ≤ nI j := le_nIb (by omega) (by omega) (by omega)
    obtain ⟨r5, r6, r7⟩ := hR j (by omega)
    have hT := m_told w hW hs (show j < 51 by omega) r6 r7 (hb j (by omega))
    show (∀ j', _ → ∃ Y', Yk Y Y' ∧ c_X4_mountain_113 50 x (loop2 (c_X4_mountain_113 50 x) n) (nI j) (putY w κ Y) = _) ∧ (∀ κ', _ → ∃ Y', Yk Y Y' ∧ c_X4_mountain_113 50 x (loop2 (c_X4_mountain_113 50 x) n) (nI j) (putY w κ Y) = _)
    unfold runK
    cases e : stK ν (stP ν j) κ with
    | none =>
      have hf := hT.2 e
      obtain ⟨Y2, e2, -, hrows, hK2, ha⟩ := m_again2 w κ Y hk9 hK
      have hp : Y2.2.1 5 j = nI (stP ν j) := by rw [hrows 5 (by decide) (by decide)]; exact r5
      refine ⟨fun j' h => ⟨Y2, e2, ?_⟩, fun κ' h => (by cases h)⟩
      have h : (Sum.inl j : Nat ⊕ aK) = .inl j' := h
      have ej : j = j' := by injection h
      subst ej
      simp only [c_X4_mountain_113, gI_Y23, bi_s, bk_s, cV_Y, gR_Y24, h5, hlt, hf, ha, gA_Y66 w κ0 Y2 (show j < 51 by omega), hp, if_true, if_false, not_true_eq_false, not_false_eq_true, Bool.false_eq_true, Bool.true_eq_false, reduceIte, ite_true, ite_false]
    | some κ1 =>
      obtain ⟨J, hf⟩ := hT.1 κ1 e
      obtain ⟨w1, c1⟩ := st_good hW hC e
      obtain ⟨i1, i2⟩ := runY w hk9 x hM hb m (j + 1) κ1 (Y.1, Y.2.1, J, Y.2.2.2) n (by omega) (by omega) w1 c1 hs h5 hR hK
      have hgo : ∀ k, c_X4_mountain_113 50 x k (nI j) (putY w κ Y) = k (nI (j + 1)) (putY w κ1 (Y.1, Y.2.1, J, Y.2.2.2)) := fun k => by
        simp only [c_X4_mountain_113, gI_Y23, bi_s, bk_s, cV_Y, h5, hlt, hf, show ¬ (1 : Int32) = 0 by decide, nI_1, if_true, if_false, not_true_eq_false, not_false_eq_true, Bool.false_eq_true, Bool.true_eq_false, reduceIte, ite_true, ite_false]
      have hyk : Yk Y (Y.1, Y.2.1, J, Y.2.2.2) := ⟨⟨rfl, rfl, fun _ _ => rfl, rfl⟩, rfl⟩
      rw [hgo]
      refine ⟨fun j' h => ?_, fun κ' h => ?_⟩
      · obtain ⟨Y', q1, q2⟩ := i1 j' h
        exact ⟨Y', hyk.trans q1, q2⟩
      · obtain ⟨Y', q1, q2⟩ := i2 κ' h
        exact ⟨Y', hyk.trans q1, q2⟩
theorem red_think {ν : aS} {Y Y' : aY} {M : Nat} (h : Red ν Y M) (e : ∀ k, k ≠ 8 → 5 ≤ k → k < 12 → Y'.2.1 k = Y.2.1 k) : Red ν Y' M := by
  intro i hi
  obtain ⟨h1, h2, h3⟩ := h i hi
  have e5 := e 5 (by decide) (by decide) (by decide)
  have e6 := e 6 (by decide) (by decide) (by decide)
  have e7 := e 7 (by decide) (by decide) (by decide)
  exact ⟨by rw [e5]; exact h1, by rw [e6]; exact h2, told_of h3 (fun z _ _ => by rw [e7])⟩
theorem m_mtn1 (w : aW) {Y : aY} {κ : aK} {σ : Nat → aS} (hC : Cp σ Y) (hW : WF κ) (hCA : CA κ) (hs : Y.1 0 = 0) {d N : Nat} (hT : Txt σ d N) (h2r : Y.1 2 = nI d) (h3 : Y.1 3 = 0) (h4 : Y.1 4 = 0) (h5 : Y.1 5 = 0) : ∃ Y', Yk Y Y' ∧ loop1 (c_X4_mountain_57 50 (nI d)) a_fuel (putY w κ Y) = some ((mtn1 (σ d) κ).1, putY w (mtn1 (σ d) κ).2 Y') := by
  have hk9 := hW.1
  have hN := hT.2.1
  have hsz := sz_of hT.2.1 hT.2.2.2
  obtain ⟨i1, i2⟩ := readY w κ hT 60 0 Y a_fuel rfl (by decide) (Or.inl rfl) hC h2r h5 ⟨h3, h4⟩ (fun i hi => absurd hi (Nat.not_lt_zero i))
  cases hsc : scanK (σ d) N 60 0 with
  | inl q =>
    obtain ⟨Y', t1, t2⟩ := i1 q hsc
    refine ⟨Y', t1.yk, ?_⟩
    rw [mtn1_bad (by rw [hsz]; exact hsc)]
    exact t2
  | inr M =>
    obtain ⟨Y1, t1, t5, t4, tR, tl⟩ := i2 M hsc
    obtain ⟨g1, g2, g3, g4, g5⟩ := scan_good hN 60 0 M rfl hsc
    have hlt := text_lt hT.2.1 hT.2.2.2 g5
    have hM51 : M ≤ 51 := by
      rcases Nat.lt_or_ge 51 M with h | h
      · have h1 := hlt 51 h
        have h2 := stP_ge (σ d) 51
        omega
      · exact h
    obtain ⟨Y2, q1, q2, q3, q4, q5⟩ := m_think2 w Y1 hk9
    have hs2 : Y2.1 0 = 0 := (q2 0 (by decide) (by decide) (by decide)).trans ((t1.1 0 (by decide) (by decide) (by decide)).trans hs)
    have h52 : Y2.1 5 = nI M := (q2 5 (by decide) (by decide) (by decide)).trans t5
    have hR2 := red_think tR q4
    have hyk2 : Yk Y Y2 := t1.yk.trans ⟨q1, q4 9 (by decide) (by decide) (by decide)⟩
    obtain ⟨r1, r2⟩ := runY w hk9 (nI d) hM51 (fun i hi => g5 i (Nat.zero_le i) hi) M 0 κ Y2 a_fuel (by omega) (show M < 1000 by omega) hW hCA hs2 h52 hR2 q3
    have h91 : c_X4_mountain_91 50 (nI d) (putY w κ Y1) = loop2 (c_X4_mountain_113 50 (nI d)) a_fuel 0 (putY w κ Y2) := by
      simp only [c_X4_mountain_91, gI_Y22, bi_s, bk_s, cV_Y, t4, q5, if_true, if_false, not_true_eq_false, not_false_eq_true, Bool.false_eq_true, Bool.true_eq_false, reduceIte, ite_true, ite_false]
    rw [tl, h91, mtn1_good (by rw [hsz]; exact hsc)]
    have e0 : nI 0 = 0 := rfl
    rw [e0] at r1 r2
    cases hr : runK (σ d) M 0 κ with
    | inl j =>
      obtain ⟨Y', u1, u2⟩ := r1 j hr
      refine ⟨Y', hyk2.trans u1, ?_⟩
      rw [u2, mtn2_bad hr]
    | inr κ' =>
      obtain ⟨Y', u1, u2⟩ := r2 κ' hr
      refine ⟨Y', hyk2.trans u1, ?_⟩
      rw [u2, mtn2_good hr]
theorem m_mountain (w : aW) {Y : aY} {κ : aK} {σ : Nat → aS} (hC : Cp σ Y) (hW : WF κ) (hCA : CA κ) (hs : Y.1 0 = 0) (x : Int32) : ∃ Y', Yk Y Y' ∧ f_X4_mountain 50 x (putY w κ Y) = some ((mtnK x κ σ).1, putY w (mtnK x κ σ).2 Y') := by
  have hC' := hC.thr 0
  have ew := m_wrongRow w κ hC' x
  unfold f_X4_mountain mtnK
  by_cases h1 : inR x 0 7 = true
  · obtain ⟨d, hd, rfl⟩ := in7 h1
    have er : refR σ (nI d) = rowR (σ d) := by unfold refR; rw [if_pos h1, ix7 hd]
    rw [er] at ew
    obtain ⟨hν, hY⟩ := hC' d hd
    rw [if_pos h1, ix7 hd]
    by_cases h2 : (σ d).1 0 = 0
    · have e11 : rowR (σ d) = -11 := by unfold rowR; rw [if_neg (fun z => z h2)]
      refine ⟨yint Y 1 0, Yk.thrown Y 0, ?_⟩
      rw [if_pos h2]
      simp only [c_X4_mountain_30, sF_Y19, bi_s, bk_s, cV_Y, ew, e11, show ¬ (-11 : Int32) = 0 by decide, show ¬ (0 : Int32) ≤ -11 by decide, if_true, if_false, not_true_eq_false, not_false_eq_true, Bool.false_eq_true, Bool.true_eq_false, reduceIte, ite_true, ite_false]
    · rw [if_neg h2]
      by_cases h3 : (σ d).1 0 = 2
      · have e0 : rowR (σ d) = 0 := by unfold rowR; rw [if_pos h2, if_neg (fun z => z h3)]
        obtain ⟨hk, hsz, hel⟩ := hY.2.2 h3
        by_cases h4 : (σ d).1 3 = 0
        · rw [if_pos (by rw [decide_eq_true h3, decide_eq_true h4]; rfl)]
          obtain ⟨N, hN, he⟩ := hν.2.1
          obtain ⟨Y', y1, y2⟩ := m_mtn1 w (Y := yint (yint (yint (yint (yint Y 1 0) 2 (nI d)) 3 0) 4 0) 5 0) (κ := κ) (σ := σ) (d := d) (N := N) (hC'.of (fun _ _ => rfl) rfl) hW hCA hs ⟨hd, hN, h3, he⟩ rfl rfl rfl rfl
          refine ⟨Y', Yk.trans (b := yint (yint (yint (yint (yint Y 1 0) 2 (nI d)) 3 0) 4 0) 5 0) ⟨⟨rfl, rfl, fun _ _ => rfl, rfl⟩, rfl⟩ y1, ?_⟩
          simp only [c_X4_mountain_30, sF_Y19, sF_Y20, sF_Y21, sF_Y22, sF_Y23, gR_Y16, bi_s, bk_s, cV_Y, ew, e0, gA_Y63 w κ _ hd, hk, h4, Int32.le_refl, if_true, if_false, not_true_eq_false, not_false_eq_true, Bool.false_eq_true, Bool.true_eq_false, reduceIte, ite_true, ite_false]
          exact y2
        · rw [if_neg (by rw [decide_eq_false h4, Bool.and_false]; decide)]
          refine ⟨yint Y 1 0, Yk.thrown Y 0, ?_⟩
          simp only [c_X4_mountain_30, sF_Y19, gR_Y16, bi_s, bk_s, cV_Y, ew, e0, gA_Y63 w κ _ hd, hk, h4, show ¬ (0 : Int32) ≤ -12 by decide, if_true, if_false, not_true_eq_false, not_false_eq_true, Bool.false_eq_true, Bool.true_eq_false, reduceIte, ite_true, ite_false]
      · have e12 : rowR (σ d) = -12 := by unfold rowR; rw [if_pos h2, if_pos h3]
        rw [if_neg (by rw [decide_eq_false h3, Bool.false_and]; decide)]
        refine ⟨yint Y 1 0, Yk.thrown Y 0, ?_⟩
        simp only [c_X4_mountain_30, sF_Y19, bi_s, bk_s, cV_Y, ew, e12, show ¬ (-12 : Int32) = 0 by decide, show ¬ (0 : Int32) ≤ -12 by decide, if_true, if_false, not_true_eq_false, not_false_eq_true, Bool.false_eq_true, Bool.true_eq_false, reduceIte, ite_true, ite_false]
  · have er : refR σ x = -1 := by unfold refR; rw [if_neg h1]
    rw [er] at ew
    refine ⟨yint Y 1 0, Yk.thrown Y 0, ?_⟩
    rw [if_neg h1]
    simp only [c_X4_mountain_30, sF_Y19, bi_s, bk_s, cV_Y, ew, show ¬ (-1 : Int32) = 0 by decide, m1_nle, if_true, if_false, not_true_eq_false, not_false_eq_true, Bool.false_eq_true, Bool.true_eq_false, reduceIte, ite_true, ite_false]
