/-! PURE: comes, of, image, restore, copy: at both sides -/
def newK (κ : aK) (s f x : Int32) : aK := kset (kset (kset (kset (kset (kint (κ.1 + 1, κ.2) 1 (κ.2.1 1 ||| oneI κ.1)) 0 κ.1 s) 1 κ.1 f) 2 κ.1 x) 3 κ.1 0) 4 κ.1 (-4)
def addK (s f x : Int32) (κ : aK) : Int32 × aK := if inR s 0 7 = true then (if inR f 0 9 = true then (if inR x 0 15 = true then (if κ.1 < 9 then (nI κ.1, newK κ s f x) else (-2, κ)) else (-1, κ)) else (-1, κ)) else (-1, κ)
theorem p_addBeast {w : aW} {j : Nat} (hj : j + 9 < 75) {κ : aK} (hk : κ.1 ≤ 9) (s f x : Int32) : f_X0_addBeast j s f x (putM w j κ) = some ((addK s f x κ).1, putM w j (addK s f x κ).2) := by
  unfold f_X0_addBeast addK
  by_cases h1 : inR s 0 7 = true
  · by_cases h2 : inR f 0 9 = true
    · by_cases h3 : inR x 0 15 = true
      · by_cases h4 : κ.1 < 9
        · have h4' : nI κ.1 < 9 := (nI_ltI (a := κ.1) (b := 9) (by omega) (by decide)).mpr h4
          simp only [h1, h2, h3, h4, h4', p_isSort, p_isFigure, p_isPlace, gI_M0 hj, gI_M1 hj, gI_M2 hj, gI_M3 hj, gR_M4 hj, gR_M5 hj, gR_M6 hj, gR_M7 hj, gR_M8 hj, gR_M9 hj, gR_M10 hj, gR_M11 hj, gR_M12 hj, cV_M hj, bk_some, bind_some', zb_0, zb_1, zb_or, cc_or, kset_1, kset_21, kint_1, kint_21, kint_22, sF_M1 hj, sF_M2 hj, sA_M0 hj _ h4, sA_M1 hj _ h4, sA_M2 hj _ h4, sA_M3 hj _ h4, sA_M4 hj _ h4, nI_1, if_true, if_false, not_true_eq_false, not_false_eq_true, Bool.false_eq_true, Bool.true_eq_false, reduceIte, ite_true, ite_false]
          rfl
        · have h4' : ¬ nI κ.1 < 9 := fun z => h4 ((nI_ltI (a := κ.1) (b := 9) (by omega) (by decide)).mp z)
          simp only [h1, h2, h3, h4, h4', p_isSort, p_isFigure, p_isPlace, gI_M0 hj, gI_M1 hj, gI_M2 hj, gI_M3 hj, gR_M4 hj, gR_M5 hj, gR_M6 hj, gR_M7 hj, gR_M8 hj, gR_M9 hj, gR_M10 hj, gR_M11 hj, gR_M12 hj, cV_M hj, bk_some, bind_some', zb_0, zb_1, zb_or, cc_or, kset_1, kset_21, kint_1, kint_21, kint_22, if_true, if_false, not_true_eq_false, not_false_eq_true, Bool.false_eq_true, Bool.true_eq_false, reduceIte, ite_true, ite_false]
      · have h3 := Bool.eq_false_iff.mpr h3
        simp only [h1, h2, h3, p_isSort, p_isFigure, p_isPlace, gI_M0 hj, gI_M1 hj, gI_M2 hj, gI_M3 hj, gR_M4 hj, gR_M5 hj, gR_M6 hj, gR_M7 hj, gR_M8 hj, gR_M9 hj, gR_M10 hj, gR_M11 hj, gR_M12 hj, cV_M hj, bk_some, bind_some', zb_0, zb_1, zb_or, cc_or, kset_1, kset_21, kint_1, kint_21, kint_22, if_true, if_false, not_true_eq_false, not_false_eq_true, Bool.false_eq_true, Bool.true_eq_false, reduceIte, ite_true, ite_false]
    · have h2 := Bool.eq_false_iff.mpr h2
      simp only [h1, h2, p_isSort, p_isFigure, gI_M0 hj, gI_M1 hj, gI_M2 hj, gI_M3 hj, gR_M4 hj, gR_M5 hj, gR_M6 hj, gR_M7 hj, gR_M8 hj, gR_M9 hj, gR_M10 hj, gR_M11 hj, gR_M12 hj, cV_M hj, bk_some, bind_some', zb_0, zb_1, zb_or, cc_or, kset_1, kset_21, kint_1, kint_21, kint_22, if_true, if_false, not_true_eq_false, not_false_eq_true, Bool.false_eq_true, Bool.true_eq_false, reduceIte, ite_true, ite_false]
  · have h1 := Bool.eq_false_iff.mpr h1
    simp only [h1, p_isSort, gI_M0 hj, gI_M1 hj, gI_M2 hj, gI_M3 hj, gR_M4 hj, gR_M5 hj, gR_M6 hj, gR_M7 hj, gR_M8 hj, gR_M9 hj, gR_M10 hj, gR_M11 hj, gR_M12 hj, cV_M hj, bk_some, bind_some', zb_0, zb_1, zb_or, cc_or, kset_1, kset_21, kint_1, kint_21, kint_22, if_true, if_false, not_true_eq_false, not_false_eq_true, Bool.false_eq_true, Bool.true_eq_false, reduceIte, ite_true, ite_false]
theorem new_WF0 {κ : aK} (hW : WF κ) (h9 : κ.1 < 9) : WF (kint (κ.1 + 1, κ.2) 1 (κ.2.1 1 ||| oneI κ.1)) := by
  obtain ⟨h1, h2, h3, ⟨a, ha, hA⟩, h5⟩ := hW
  refine ⟨h9, h2, h3, ?_, fun i h6 h7 => ?_⟩
  · show ∃ a, a < 512 ∧ κ.2.1 1 ||| oneI κ.1 = nI a
    rw [hA]
    exact or_lt ha h9
  · have h6' : κ.1 + 1 ≤ i := h6
    refine ⟨(h5 i (by omega) h7).1, ?_⟩
    show bitB (κ.2.1 1 ||| oneI κ.1) (nI i) = false
    rw [bit_or _ (by omega) (by omega), (h5 i (by omega) h7).2, decide_eq_false (by omega)]
    rfl
theorem new_WF {κ : aK} (hW : WF κ) (h9 : κ.1 < 9) {s f x : Nat} (hs : s ≤ 7) (hf : f ≤ 9) (hx : x ≤ 15) : WF (newK κ (nI s) (nI f) (nI x)) :=
  ((((new_WF0 hW h9).sort hs).figure hf).place hx |>.hunger (x := 0) (by decide)).caller (Or.inl rfl)
theorem new_CA {κ : aK} (hC : CA κ) (h9 : κ.1 < 9) (s f x : Int32) : CA (newK κ s f x) := by
  intro z hz hne
  have e : (newK κ s f x).2.2 4 z = if z = κ.1 then -4 else κ.2.2 4 z := rfl
  rw [e] at hne
  show bitB (κ.2.1 1 ||| oneI κ.1) (nI z) = true
  rw [bit_or _ (by omega) (by omega)]
  by_cases h : z = κ.1
  · rw [if_pos h] at hne; exact absurd rfl hne
  · rw [if_neg h] at hne
    rw [hC z hz hne]; rfl
theorem add_WF {κ : aK} (hW : WF κ) (s f x : Int32) : WF (addK s f x κ).2 := by
  unfold addK
  by_cases h1 : inR s 0 7 = true
  · by_cases h2 : inR f 0 9 = true
    · by_cases h3 : inR x 0 15 = true
      · by_cases h4 : κ.1 < 9
        · obtain ⟨s', hs, rfl⟩ := in7 h1
          obtain ⟨f', hf, rfl⟩ := inR_nI (n := 9) (by decide) h2
          obtain ⟨x', hx, rfl⟩ := inL h3
          rw [if_pos h1, if_pos h2, if_pos h3, if_pos h4]
          exact new_WF hW h4 (by omega) hf hx
        · rw [if_pos h1, if_pos h2, if_pos h3, if_neg h4]; exact hW
      · rw [if_pos h1, if_pos h2, if_neg h3]; exact hW
    · rw [if_pos h1, if_neg h2]; exact hW
  · rw [if_neg h1]; exact hW
theorem add_CA {κ : aK} (hC : CA κ) (s f x : Int32) : CA (addK s f x κ).2 := by
  unfold addK
  split
  · split
    · split
      · split
        · next h => exact new_CA hC h _ _ _
        · exact hC
      · exact hC
    · exact hC
  · exact hC
theorem putY_ext (w : aW) {κ κ' : aK} {y : aY} (h1 : κ.1 = κ'.1) (h2 : κ.2.1 0 = κ'.2.1 0) (h3 : κ.2.1 1 = κ'.2.1 1) (h4 : ∀ k, k < 5 → mix κ.1 (κ.2.2 k) (y.2.2.1 k) = mix κ'.1 (κ'.2.2 k) (y.2.2.1 k)) (h5 : ∀ k, 5 ≤ k → k < 9 → κ.2.2 k = κ'.2.2 k) : putY w κ y = putY w κ' y := by
  have a0 := h4 0 (by decide)
  have a1 := h4 1 (by decide)
  have a2 := h4 2 (by decide)
  have a3 := h4 3 (by decide)
  have a4 := h4 4 (by decide)
  have b5 := h5 5 (by decide) (by decide)
  have b6 := h5 6 (by decide) (by decide)
  have b7 := h5 7 (by decide) (by decide)
  have b8 := h5 8 (by decide) (by decide)
  funext i
  unfold putY
  split
  · show Sum.inr (3, yfl κ y) = Sum.inr (3, yfl κ' y)
    unfold yfl
    rw [h1, h2, h3]
  · rw [a0]
  · rw [a1]
  · rw [a2]
  · rw [a3]
  · rw [a4]
  · rw [b5]
  · rw [b6]
  · rw [b7]
  · rw [b8]
  all_goals rfl
theorem mix_new {n : Nat} (f g : Nat → Int32) (v : Int32) : mix (n + 1) (mix n f (upd g n v)) (mix n f (upd g n v)) = mix (n + 1) (upd f n v) (mix n f (upd g n v)) := by
  funext z
  unfold mix upd
  by_cases h : z < n
  · have h1 : z < n + 1 := by omega
    have h2 : z ≠ n := by omega
    simp [h, h1, h2]
  · by_cases h2 : z = n
    · subst h2; simp
    · have h1 : ¬ z < n + 1 := by omega
      simp [h, h1]
theorem m_beastComes (w : aW) (Y : aY) {κ : aK} (hk : κ.1 ≤ 9) (s f x : Int32) : if s < 8 ∧ inR x 0 15 = true ∧ κ.1 < 9 then ∃ J, f_X4_beastComes 50 s f x (putY w κ Y) = some (1, putY w (newK κ s f x) (Y.1, Y.2.1, J, Y.2.2.2)) else f_X4_beastComes 50 s f x (putY w κ Y) = some (0, putY w κ Y) := by
  unfold f_X4_beastComes
  by_cases h1 : s < 8
  · have h1' := Int32.not_le.mpr h1
    by_cases h2 : inR x 0 15 = true
    · by_cases h3 : κ.1 < 9
      · rw [if_pos ⟨h1, h2, h3⟩]
        have h3' : ¬ (9 : Int32) ≤ nI κ.1 := nI_ge h3 (by decide)
        have ht : (if ¬ ((1 : Int32) = 0 ∨ (1 : Int32) = 1) then (none : Option (Int32 × aW)) else none) = none := by simp
        simp only [h1', h2, h3', m_isPlace, c_X4_beastComes_27, show ¬ (1 : Int32) = 0 by decide, sj_Y51 w _ _ h3 (Nat.le_refl κ.1), sj_Y52 w _ _ h3 (Nat.le_refl κ.1), sj_Y53 w _ _ h3 (Nat.le_refl κ.1), sj_Y54 w _ _ h3 (Nat.le_refl κ.1), sj_Y55 w _ _ h3 (Nat.le_refl κ.1), sF_Y6, sF_Y0, gI_Y0, gR_Y1, gR_Y2, gR_Y3, gR_Y4, gR_Y5, gI_Y6, gR_Y7, gR_Y8, gR_Y9, gR_Y10, gI_Y11, gI_Y12, gR_Y13, gR_Y14, gR_Y15, gR_Y16, gR_Y17, gR_Y18, gI_Y19, gI_Y20, gI_Y21, gI_Y22, gI_Y23, gR_Y24, gR_Y25, gR_Y26, gR_Y27, gR_Y28, gI_Y29, gI_Y30, gI_Y31, gR_Y33, gR_Y34, gI_Y35, gR_Y36, cV_Y, bk_some, bind_some', zb_0, zb_1, zb_or, cc_or, kset_1, kset_21, kint_1, kint_21, kint_22, putY_moved, or_true, nI_1, if_true, if_false, not_true_eq_false, not_false_eq_true, Bool.false_eq_true, Bool.true_eq_false, reduceIte, ite_true, ite_false]
        refine Exists.intro _ (congrArg (fun v => some ((1 : Int32), v)) (putY_ext w rfl rfl rfl (fun k hk => ?_) (fun k h5 h9 => ?_)))
        · rcases (show k = 0 ∨ k = 1 ∨ k = 2 ∨ k = 3 ∨ k = 4 by omega) with rfl | rfl | rfl | rfl | rfl
          · exact mix_new _ _ _
          · exact mix_new _ _ _
          · exact mix_new _ _ _
          · exact mix_new _ _ _
          · exact mix_new _ _ _
        · rcases (show k = 5 ∨ k = 6 ∨ k = 7 ∨ k = 8 by omega) with rfl | rfl | rfl | rfl <;> rfl
      · rw [if_neg (fun z => h3 z.2.2)]
        have h3' : (9 : Int32) ≤ nI κ.1 := (nI_leI (a := 9) (by decide) (by omega)).mpr (by omega)
        simp only [h1', h2, h3', m_isPlace, c_X4_beastComes_27, gI_Y0, gR_Y1, gR_Y2, gR_Y3, gR_Y4, gR_Y5, gI_Y6, gR_Y7, gR_Y8, gR_Y9, gR_Y10, gI_Y11, gI_Y12, gR_Y13, gR_Y14, gR_Y15, gR_Y16, gR_Y17, gR_Y18, gI_Y19, gI_Y20, gI_Y21, gI_Y22, gI_Y23, gR_Y24, gR_Y25, gR_Y26, gR_Y27, gR_Y28, gI_Y29, gI_Y30, gI_Y31, gR_Y33, gR_Y34, gI_Y35, gR_Y36, cV_Y, bk_some, bind_some', zb_0, zb_1, zb_or, cc_or, kset_1, kset_21, kint_1, kint_21, kint_22, putY_moved, true_or, if_true, if_false, not_true_eq_false, not_false_eq_true, Bool.false_eq_true, Bool.true_eq_false, reduceIte, ite_true, ite_false]
    · rw [if_neg (fun z => h2 z.2.1)]
      have h2 := Bool.eq_false_iff.mpr h2
      simp only [h1', h2, m_isPlace, c_X4_beastComes_27, gI_Y0, gR_Y1, gR_Y2, gR_Y3, gR_Y4, gR_Y5, gI_Y6, gR_Y7, gR_Y8, gR_Y9, gR_Y10, gI_Y11, gI_Y12, gR_Y13, gR_Y14, gR_Y15, gR_Y16, gR_Y17, gR_Y18, gI_Y19, gI_Y20, gI_Y21, gI_Y22, gI_Y23, gR_Y24, gR_Y25, gR_Y26, gR_Y27, gR_Y28, gI_Y29, gI_Y30, gI_Y31, gR_Y33, gR_Y34, gI_Y35, gR_Y36, cV_Y, bk_some, bind_some', zb_0, zb_1, zb_or, cc_or, kset_1, kset_21, kint_1, kint_21, kint_22, putY_moved, true_or, if_true, if_false, not_true_eq_false, not_false_eq_true, Bool.false_eq_true, Bool.true_eq_false, reduceIte, ite_true, ite_false]
  · rw [if_neg (fun z => h1 z.1)]
    have h1' := Int32.not_lt.mp h1
    simp only [h1', c_X4_beastComes_27, true_or, if_true, if_false, not_true_eq_false, not_false_eq_true, Bool.false_eq_true, Bool.true_eq_false, reduceIte, ite_true, ite_false]
def comesK (x p : Int32) (κ : aK) (σ : Nat → aS) : Int32 × aK := if inR x 0 7 = true then (if inR p 0 15 = true then (if beaR (σ (ix x)) = 0 then addK ((σ (ix x)).1 1) ((σ (ix x)).1 2) p κ else (beaR (σ (ix x)), κ)) else (-1, κ)) else (-1, κ)
theorem N_addBeast (w : aW) {X : aX} (hk : X.1.1 ≤ 9) (s f x : Int32) : f_X0_addBeast 1 s f x (putX w X) = some ((addK s f x X.1).1, putX w (xnow X (addK s f x X.1).2)) := by
  rw [X_now w X, p_addBeast d10 hk, X_now']
theorem xnow_self (X : aX) : xnow X X.1 = X := rfl
theorem x_comes (w : aW) {X : aX} (hW : WF X.1) (x p : Int32) : f_X3_comes 0 x p (putX w X) = some ((comesK x p X.1 X.2.2.2.2.1).1, putX w (xnow X (comesK x p X.1 X.2.2.2.2.1).2)) := by
  unfold f_X3_comes comesK
  by_cases h1 : inR x 0 7 = true
  · obtain ⟨d, hd, rfl⟩ := in7 h1
    by_cases h2 : inR p 0 15 = true
    · by_cases h3 : beaR (X.2.2.2.2.1 d) = 0
      · simp only [h1, h2, h3, gR_X0, gR_X1, gR_X2, gI_X3, gR_X4, gR_X5, gR_X6, cV_X, x_think, xmind_1, xmind_0, xmind_2, xnow_0, xnow_1, xnow_2, bk_some, bind_some', zb_0, zb_1, zb_or, cc_or, N_cV, N_gI0, N_gI1, N_gI2, N_gI3, N_gR4, N_gR5, N_gR6, N_gR7, N_gR8, N_gR9, N_gR10, N_gR11, N_gR12, N_hasBeast, N_isAlive, N_calledBy, N_calledByAnybody, N_needTogether, N_workTogether, N_freeOnes, x_shelfAt w X hd, oc_some, p_isPlace, S_cV w X hd, S_beastRefusal w X hd, S_gI1 w X hd, S_gI2 w X hd, N_addBeast w hW.1, ix7 hd, if_true, if_false, not_true_eq_false, not_false_eq_true, Bool.false_eq_true, Bool.true_eq_false, reduceIte, ite_true, ite_false]
      · simp only [h1, h2, h3, gR_X0, gR_X1, gR_X2, gI_X3, gR_X4, gR_X5, gR_X6, cV_X, x_think, xmind_1, xmind_0, xmind_2, xnow_0, xnow_1, xnow_2, bk_some, bind_some', zb_0, zb_1, zb_or, cc_or, x_shelfAt w X hd, oc_some, p_isPlace, S_cV w X hd, S_beastRefusal w X hd, ix7 hd, xnow_self, if_true, if_false, not_true_eq_false, not_false_eq_true, Bool.false_eq_true, Bool.true_eq_false, reduceIte, ite_true, ite_false]
    · have h2 := Bool.eq_false_iff.mpr h2
      simp only [h1, h2, gR_X0, gR_X1, gR_X2, gI_X3, gR_X4, gR_X5, gR_X6, cV_X, x_think, xmind_1, xmind_0, xmind_2, xnow_0, xnow_1, xnow_2, bk_some, bind_some', zb_0, zb_1, zb_or, cc_or, x_shelfAt w X hd, oc_some, p_isPlace, xnow_self, if_true, if_false, not_true_eq_false, not_false_eq_true, Bool.false_eq_true, Bool.true_eq_false, reduceIte, ite_true, ite_false]
  · have h1 := Bool.eq_false_iff.mpr h1
    simp only [h1, gR_X0, gR_X1, gR_X2, gI_X3, gR_X4, gR_X5, gR_X6, cV_X, x_think, xmind_1, xmind_0, xmind_2, xnow_0, xnow_1, xnow_2, bk_some, bind_some', zb_0, zb_1, zb_or, cc_or, x_shelfNo w X h1, oc_none, xnow_self, if_true, if_false, not_true_eq_false, not_false_eq_true, Bool.false_eq_true, Bool.true_eq_false, reduceIte, ite_true, ite_false]
theorem m_comes (w : aW) {Y : aY} {κ : aK} {σ : Nat → aS} (hC : Cp σ Y) (hW : WF κ) (x p : Int32) : ∃ Y', Yk Y Y' ∧ f_X4_comes 50 x p (putY w κ Y) = some ((comesK x p κ σ).1, putY w (comesK x p κ σ).2 Y') := by
  have hk9 := hW.1
  have hC' := hC.thr 0
  have ew := m_wrongKept w κ hC' x
  have e1 := p_in32 (x := x) (a := 0) (b := 7) (a' := 0) (b' := 7) rfl rfl
  unfold f_X4_comes comesK
  by_cases h1 : inR x 0 7 = true
  · obtain ⟨d, hd, rfl⟩ := in7 h1
    have er : refB σ (nI d) = beaR (σ d) := by unfold refB; rw [if_pos h1, ix7 hd]
    rw [er] at ew
    obtain ⟨hν, hY⟩ := hC' d hd
    by_cases h2 : inR p 0 15 = true
    · by_cases h3 : beaR (σ d) = 0
      · have h20 := beaR_1 h3
        obtain ⟨hk, hf⟩ := hY.2.1 h20
        obtain ⟨⟨s, hs, es⟩, f, hf9, ef⟩ := hν.2.2 h20
        have hs7 : inR (nI s) 0 7 = true := inR_of (n := 7) hs (by decide)
        have hf99 : inR (nI f) 0 9 = true := inR_of (n := 9) hf9 (by decide)
        by_cases h4 : κ.1 < 9
        · have hb := m_beastComes w (yint Y 1 0) hk9 (nI s) (nI f) p
          rw [if_pos ⟨(nI_ltI (a := s) (b := 8) (by omega) (by decide)).mpr (by omega), h2, h4⟩] at hb
          obtain ⟨J, hb⟩ := hb
          refine ⟨((yint Y 1 0).1, (yint Y 1 0).2.1, J, (yint Y 1 0).2.2.2), (Yk.thrown Y 0).trans ⟨⟨rfl, rfl, fun _ _ => rfl, rfl⟩, rfl⟩, ?_⟩
          have h49 : ¬ nI κ.1 = 9 := fun z => by
            rw [show (9 : Int32) = nI 9 from rfl, nI_eq (by omega) (by decide)] at z
            omega
          simp only [h1, h2, h3, e1, ew, sF_Y19, m_isPlace, show ¬ (0 : Int32) < 0 by decide, h49, gA_Y61 w κ _ hd, gA_Y62 w κ _ hd, hk, hf, es, ef, hb, ix7 hd, gI_Y0, gR_Y1, gR_Y2, gR_Y3, gR_Y4, gR_Y5, gI_Y6, gR_Y7, gR_Y8, gR_Y9, gR_Y10, gI_Y11, gI_Y12, gR_Y13, gR_Y14, gR_Y15, gR_Y16, gR_Y17, gR_Y18, gI_Y19, gI_Y20, gI_Y21, gI_Y22, gI_Y23, gR_Y24, gR_Y25, gR_Y26, gR_Y27, gR_Y28, gI_Y29, gI_Y30, gI_Y31, gR_Y33, gR_Y34, gI_Y35, gR_Y36, cV_Y, bk_some, bind_some', zb_0, zb_1, zb_or, cc_or, kset_1, kset_21, kint_1, kint_21, kint_22, putY_moved, addK, hs7, hf99, h4, if_true, if_false, not_true_eq_false, not_false_eq_true, Bool.false_eq_true, Bool.true_eq_false, reduceIte, ite_true, ite_false]
          congr 1
          refine Prod.ext ?_ rfl
          exact nI_pred κ.1
        · have h49 : nI κ.1 = 9 := by rw [show κ.1 = 9 by omega]; rfl
          refine ⟨yint Y 1 0, Yk.thrown Y 0, ?_⟩
          simp only [h1, h2, h3, e1, ew, sF_Y19, m_isPlace, show ¬ (0 : Int32) < 0 by decide, h49, c_X4_comes_43, Int32.le_refl, es, ef, ix7 hd, gI_Y0, gR_Y1, gR_Y2, gR_Y3, gR_Y4, gR_Y5, gI_Y6, gR_Y7, gR_Y8, gR_Y9, gR_Y10, gI_Y11, gI_Y12, gR_Y13, gR_Y14, gR_Y15, gR_Y16, gR_Y17, gR_Y18, gI_Y19, gI_Y20, gI_Y21, gI_Y22, gI_Y23, gR_Y24, gR_Y25, gR_Y26, gR_Y27, gR_Y28, gI_Y29, gI_Y30, gI_Y31, gR_Y33, gR_Y34, gI_Y35, gR_Y36, cV_Y, bk_some, bind_some', zb_0, zb_1, zb_or, cc_or, kset_1, kset_21, kint_1, kint_21, kint_22, putY_moved, addK, hs7, hf99, h4, if_true, if_false, not_true_eq_false, not_false_eq_true, Bool.false_eq_true, Bool.true_eq_false, reduceIte, ite_true, ite_false]
      · refine ⟨yint Y 1 0, Yk.thrown Y 0, ?_⟩
        simp only [h1, h2, h3, e1, ew, sF_Y19, m_isPlace, beaR_neg h3, nle0 (beaR_neg h3), c_X4_comes_43, ix7 hd, gI_Y0, gR_Y1, gR_Y2, gR_Y3, gR_Y4, gR_Y5, gI_Y6, gR_Y7, gR_Y8, gR_Y9, gR_Y10, gI_Y11, gI_Y12, gR_Y13, gR_Y14, gR_Y15, gR_Y16, gR_Y17, gR_Y18, gI_Y19, gI_Y20, gI_Y21, gI_Y22, gI_Y23, gR_Y24, gR_Y25, gR_Y26, gR_Y27, gR_Y28, gI_Y29, gI_Y30, gI_Y31, gR_Y33, gR_Y34, gI_Y35, gR_Y36, cV_Y, bk_some, bind_some', zb_0, zb_1, zb_or, cc_or, kset_1, kset_21, kint_1, kint_21, kint_22, putY_moved, if_true, if_false, not_true_eq_false, not_false_eq_true, Bool.false_eq_true, Bool.true_eq_false, reduceIte, ite_true, ite_false]
    · have h2 := Bool.eq_false_iff.mpr h2
      refine ⟨yint Y 1 0, Yk.thrown Y 0, ?_⟩
      simp only [h1, h2, e1, sF_Y19, m_isPlace, gI_Y0, gR_Y1, gR_Y2, gR_Y3, gR_Y4, gR_Y5, gI_Y6, gR_Y7, gR_Y8, gR_Y9, gR_Y10, gI_Y11, gI_Y12, gR_Y13, gR_Y14, gR_Y15, gR_Y16, gR_Y17, gR_Y18, gI_Y19, gI_Y20, gI_Y21, gI_Y22, gI_Y23, gR_Y24, gR_Y25, gR_Y26, gR_Y27, gR_Y28, gI_Y29, gI_Y30, gI_Y31, gR_Y33, gR_Y34, gI_Y35, gR_Y36, cV_Y, bk_some, bind_some', zb_0, zb_1, zb_or, cc_or, kset_1, kset_21, kint_1, kint_21, kint_22, putY_moved, if_true, if_false, not_true_eq_false, not_false_eq_true, Bool.false_eq_true, Bool.true_eq_false, reduceIte, ite_true, ite_false]
  · have h1 := Bool.eq_false_iff.mpr h1
    refine ⟨yint Y 1 0, Yk.thrown Y 0, ?_⟩
    simp only [h1, e1, sF_Y19, gI_Y0, gR_Y1, gR_Y2, gR_Y3, gR_Y4, gR_Y5, gI_Y6, gR_Y7, gR_Y8, gR_Y9, gR_Y10, gI_Y11, gI_Y12, gR_Y13, gR_Y14, gR_Y15, gR_Y16, gR_Y17, gR_Y18, gI_Y19, gI_Y20, gI_Y21, gI_Y22, gI_Y23, gR_Y24, gR_Y25, gR_Y26, gR_Y27, gR_Y28, gI_Y29, gI_Y30, gI_Y31, gR_Y33, gR_Y34, gI_Y35, gR_Y36, cV_Y, bk_some, bind_some', zb_0, zb_1, zb_or, cc_or, kset_1, kset_21, kint_1, kint_21, kint_22, putY_moved, if_true, if_false, not_true_eq_false, not_false_eq_true, Bool.false_eq_true, Bool.true_eq_false, reduceIte, ite_true, ite_false]
theorem comes_WF {κ : aK} (hW : WF κ) (x p : Int32) (σ : Nat → aS) : WF (comesK x p κ σ).2 := by
  unfold comesK
  split
  · split
    · split
      · exact add_WF hW _ _ _
      · exact hW
    · exact hW
  · exact hW
theorem comes_CA {κ : aK} (hC : CA κ) (x p : Int32) (σ : Nat → aS) : CA (comesK x p κ σ).2 := by
  unfold comesK
  split
  · split
    · split
      · exact add_CA hC _ _ _
      · exact hC
    · exact hC
  · exact hC
/-! of: loudest and pairs -/
def louF (κ : aK) (i s : Nat) : Nat := if popI (calledK κ (nI i)) ≤ popI (calledK κ (nI s)) then s else i
def louK (κ : aK) : Nat := itr (louF κ) 1 4 0
theorem lou_lt (κ : aK) {i s : Nat} (hi : i < 5) (hs : s < 5) : louF κ i s < 5 := by
  unfold louF
  split <;> assumption
theorem p_loudest {w : aW} {j : Nat} (hj : j + 9 < 75) (κ : aK) : f_X0_loudest j (putM w j κ) = some (nI (louK κ), putM w j κ) := by
  unfold f_X0_loudest
  have hneg : ¬ popI (calledK κ 0) ≤ -1 := by
    obtain ⟨a, ha, hA⟩ := called_lt κ 0
    rw [hA, (pop_rng a ha).1]
    have := (pop_rng a ha).2
    exact fun z => nI_pos (n := (popI (nI a)).toNatClampNeg) (by omega) (Int32.lt_of_le_of_lt z (by decide))
  have h0 : ∀ k, c_X0_loudest_6 j k 0 (-1) 0 (putM w j κ) = k (nI 0) (popI (calledK κ (nI 0))) (nI 1) (putM w j κ) := fun k => by
    simp only [c_X0_loudest_6, show ¬ (5 : Int32) ≤ 0 by decide, p_calledBy hj, p_bitCount, hneg, gI_M0 hj, gI_M1 hj, gI_M2 hj, gI_M3 hj, gR_M4 hj, gR_M5 hj, gR_M6 hj, gR_M7 hj, gR_M8 hj, gR_M9 hj, gR_M10 hj, gR_M11 hj, gR_M12 hj, cV_M hj, bk_some, bind_some', zb_0, zb_1, zb_or, cc_or, kset_1, kset_21, kint_1, kint_21, kint_22, if_true, if_false, not_true_eq_false, not_false_eq_true, Bool.false_eq_true, Bool.true_eq_false, reduceIte, ite_true, ite_false]
    rfl
  show c_X0_loudest_6 j (loop4 (c_X0_loudest_6 j) 999) 0 (-1) 0 (putM w j κ) = _
  rw [h0]
  refine for4 (fun s : Nat => nI s) (fun s => popI (calledK κ (nI s))) (fun _ => putM w j κ) (c_X0_loudest_6 j) 5 (louF κ) (fun s => some (nI s, putM w j κ)) (fun _ _ => True) ?_ (fun _ _ _ _ => trivial) ?_ 4 1 0 999 rfl (by decide) trivial
  · intro k i s hi _
    simp only [c_X0_loudest_6, le_5 hi, p_calledBy hj, p_bitCount, gI_M0 hj, gI_M1 hj, gI_M2 hj, gI_M3 hj, gR_M4 hj, gR_M5 hj, gR_M6 hj, gR_M7 hj, gR_M8 hj, gR_M9 hj, gR_M10 hj, gR_M11 hj, gR_M12 hj, cV_M hj, bk_some, bind_some', zb_0, zb_1, zb_or, cc_or, kset_1, kset_21, kint_1, kint_21, kint_22, nI_1, if_true, if_false, not_true_eq_false, not_false_eq_true, Bool.false_eq_true, Bool.true_eq_false, reduceIte, ite_true, ite_false]
    unfold louF
    split <;> rfl
  · intro k s _
    simp only [c_X0_loudest_6]
    rfl
theorem m_loudest (w : aW) (Y : aY) {κ : aK} (hW : WF κ) : f_X4_loudest 50 (putY w κ Y) = some (nI (louK κ), putY w κ Y) := by
  unfold f_X4_loudest
  refine for3 (fun s : Nat => nI s) (fun _ => putY w κ Y) (c_X4_loudest_4 50) 5 (louF κ) (fun s => some (nI s, putY w κ Y)) (fun _ s => s < 5) ?_ (fun i s hi hs => lou_lt κ hi hs) ?_ 4 1 0 a_fuel rfl (by decide) (by decide)
  · intro k i s hi hs
    simp only [c_X4_loudest_4, le_5 hi, gI_Y0, gR_Y1, gR_Y2, gR_Y3, gR_Y4, gR_Y5, gI_Y6, gR_Y7, gR_Y8, gR_Y9, gR_Y10, gI_Y11, gI_Y12, gR_Y13, gR_Y14, gR_Y15, gR_Y16, gR_Y17, gR_Y18, gI_Y19, gI_Y20, gI_Y21, gI_Y22, gI_Y23, gR_Y24, gR_Y25, gR_Y26, gR_Y27, gR_Y28, gI_Y29, gI_Y30, gI_Y31, gR_Y33, gR_Y34, gI_Y35, gR_Y36, cV_Y, bk_some, bind_some', zb_0, zb_1, zb_or, cc_or, kset_1, kset_21, kint_1, kint_21, kint_22, putY_moved, m_calledBits w Y hW hi, m_calledBits w Y hW hs, m_onesOf' (called_lt κ (nI i)), m_onesOf' (called_lt κ (nI s)), nI_1, if_true, if_false, not_true_eq_false, not_false_eq_true, Bool.false_eq_true, Bool.true_eq_false, reduceIte, ite_true, ite_false]
    unfold louF
    split <;> rfl
  · intro k s _
    simp only [c_X4_loudest_4]
    rfl
def pairF (κ : aK) (a b : Nat) (s : Int32) : Int32 := if (bitB (κ.2.1 1) (nI a) && (bitB (κ.2.1 1) (nI b) && decide (κ.2.2 2 a = κ.2.2 2 b))) = true then s + 1 else s
def pairO (κ : aK) (a : Nat) (s : Int32) : Int32 := itr (pairF κ a) (a + 1) (κ.1 - (a + 1)) s
def pairK (κ : aK) : Int32 := itr (pairO κ) 0 κ.1 0
theorem p_pairs {w : aW} {j : Nat} (hj : j + 9 < 75) {κ : aK} (hk : κ.1 ≤ 9) : f_X0_pairsTogether j (putM w j κ) = some (pairK κ, putM w j κ) := by
  unfold f_X0_pairsTogether
  refine for3 (fun s : Int32 => s) (fun _ => putM w j κ) (c_X0_pairsTogether_4 j) κ.1 (pairO κ) (fun s => some (s, putM w j κ)) (fun _ _ => True) ?_ (fun _ _ _ _ => trivial) ?_ κ.1 0 0 a_fuel (by omega) (show κ.1 < 1000 by omega) trivial
  · intro k a s ha _
    simp only [c_X0_pairsTogether_4, lt_9I ha hk, gI_M0 hj, gI_M1 hj, gI_M2 hj, gI_M3 hj, gR_M4 hj, gR_M5 hj, gR_M6 hj, gR_M7 hj, gR_M8 hj, gR_M9 hj, gR_M10 hj, gR_M11 hj, gR_M12 hj, cV_M hj, bk_some, bind_some', zb_0, zb_1, zb_or, cc_or, kset_1, kset_21, kint_1, kint_21, kint_22, nI_1, if_true, if_false, not_true_eq_false, not_false_eq_true, Bool.false_eq_true, Bool.true_eq_false, reduceIte, ite_true, ite_false]
    refine for4 (fun s : Int32 => s) (fun _ => nI a) (fun _ => putM w j κ) (c_X0_pairsTogether_16 j k) κ.1 (pairF κ a) (fun s => k s (nI (a + 1)) (putM w j κ)) (fun _ _ => True) ?_ (fun _ _ _ _ => trivial) ?_ (κ.1 - (a + 1)) (a + 1) s a_fuel (by omega) (show κ.1 - (a + 1) < 1000 by omega) trivial
    · intro k' b s hb _
      simp only [c_X0_pairsTogether_16, lt_9I hb hk, p_isAlive hj, gA_M2 hj κ (show a < 9 by omega), gA_M2 hj κ (show b < 9 by omega), gI_M0 hj, gI_M1 hj, gI_M2 hj, gI_M3 hj, gR_M4 hj, gR_M5 hj, gR_M6 hj, gR_M7 hj, gR_M8 hj, gR_M9 hj, gR_M10 hj, gR_M11 hj, gR_M12 hj, cV_M hj, bk_some, bind_some', zb_0, zb_1, zb_or, cc_or, kset_1, kset_21, kint_1, kint_21, kint_22, nI_1, if_true, if_false, not_true_eq_false, not_false_eq_true, Bool.false_eq_true, Bool.true_eq_false, reduceIte, ite_true, ite_false]
      unfold pairF
      by_cases h1 : bitB (κ.2.1 1) (nI a) = true <;> by_cases h2 : bitB (κ.2.1 1) (nI b) = true <;> by_cases h3 : κ.2.2 2 a = κ.2.2 2 b <;> simp [h1, h2, h3]
    · intro k' s _
      simp only [c_X0_pairsTogether_16, gI_M0 hj, gI_M1 hj, gI_M2 hj, gI_M3 hj, gR_M4 hj, gR_M5 hj, gR_M6 hj, gR_M7 hj, gR_M8 hj, gR_M9 hj, gR_M10 hj, gR_M11 hj, gR_M12 hj, cV_M hj, bk_some, bind_some', zb_0, zb_1, zb_or, cc_or, kset_1, kset_21, kint_1, kint_21, kint_22, Int32.le_refl, nI_1, if_true, if_false, not_true_eq_false, not_false_eq_true, Bool.false_eq_true, Bool.true_eq_false, reduceIte, ite_true, ite_false]
  · intro k s _
    simp only [c_X0_pairsTogether_4, gI_M0 hj, gI_M1 hj, gI_M2 hj, gI_M3 hj, gR_M4 hj, gR_M5 hj, gR_M6 hj, gR_M7 hj, gR_M8 hj, gR_M9 hj, gR_M10 hj, gR_M11 hj, gR_M12 hj, cV_M hj, bk_some, bind_some', zb_0, zb_1, zb_or, cc_or, kset_1, kset_21, kint_1, kint_21, kint_22, Int32.le_refl, if_true, if_false, not_true_eq_false, not_false_eq_true, Bool.false_eq_true, Bool.true_eq_false, reduceIte, ite_true, ite_false]
theorem m_pairs (w : aW) (Y : aY) {κ : aK} (hk : κ.1 ≤ 9) : f_X4_pairsNow 50 (putY w κ Y) = some (pairK κ, putY w κ Y) := by
  unfold f_X4_pairsNow
  refine for3 (fun s : Int32 => s) (fun _ => putY w κ Y) (c_X4_pairsNow_4 50) κ.1 (pairO κ) (fun s => some (s, putY w κ Y)) (fun _ _ => True) ?_ (fun _ _ _ _ => trivial) ?_ κ.1 0 0 a_fuel (by omega) (show κ.1 < 1000 by omega) trivial
  · intro k a s ha _
    simp only [c_X4_pairsNow_4, lt_9I ha hk, gI_Y0, gR_Y1, gR_Y2, gR_Y3, gR_Y4, gR_Y5, gI_Y6, gR_Y7, gR_Y8, gR_Y9, gR_Y10, gI_Y11, gI_Y12, gR_Y13, gR_Y14, gR_Y15, gR_Y16, gR_Y17, gR_Y18, gI_Y19, gI_Y20, gI_Y21, gI_Y22, gI_Y23, gR_Y24, gR_Y25, gR_Y26, gR_Y27, gR_Y28, gI_Y29, gI_Y30, gI_Y31, gR_Y33, gR_Y34, gI_Y35, gR_Y36, cV_Y, bk_some, bind_some', zb_0, zb_1, zb_or, cc_or, kset_1, kset_21, kint_1, kint_21, kint_22, putY_moved, nI_1, if_true, if_false, not_true_eq_false, not_false_eq_true, Bool.false_eq_true, Bool.true_eq_false, reduceIte, ite_true, ite_false]
    refine for4 (fun s : Int32 => s) (fun _ => nI a) (fun _ => putY w κ Y) (c_X4_pairsNow_16 50 k) κ.1 (pairF κ a) (fun s => k s (nI (a + 1)) (putY w κ Y)) (fun _ _ => True) ?_ (fun _ _ _ _ => trivial) ?_ (κ.1 - (a + 1)) (a + 1) s a_fuel (by omega) (show κ.1 - (a + 1) < 1000 by omega) trivial
    · intro k' b s hb _
      simp only [c_X4_pairsNow_16, lt_9I hb hk, p_hasBit, gA_Y53 w Y hk ha, gA_Y53 w Y hk hb, gI_Y0, gR_Y1, gR_Y2, gR_Y3, gR_Y4, gR_Y5, gI_Y6, gR_Y7, gR_Y8, gR_Y9, gR_Y10, gI_Y11, gI_Y12, gR_Y13, gR_Y14, gR_Y15, gR_Y16, gR_Y17, gR_Y18, gI_Y19, gI_Y20, gI_Y21, gI_Y22, gI_Y23, gR_Y24, gR_Y25, gR_Y26, gR_Y27, gR_Y28, gI_Y29, gI_Y30, gI_Y31, gR_Y33, gR_Y34, gI_Y35, gR_Y36, cV_Y, bk_some, bind_some', zb_0, zb_1, zb_or, cc_or, kset_1, kset_21, kint_1, kint_21, kint_22, putY_moved, i32_add0, nI_1, if_true, if_false, not_true_eq_false, not_false_eq_true, Bool.false_eq_true, Bool.true_eq_false, reduceIte, ite_true, ite_false]
      unfold pairF
      by_cases h1 : bitB (κ.2.1 1) (nI a) = true <;> by_cases h2 : bitB (κ.2.1 1) (nI b) = true <;> by_cases h3 : κ.2.2 2 a = κ.2.2 2 b <;> simp [h1, h2, h3]
    · intro k' s _
      simp only [c_X4_pairsNow_16, gI_Y0, gR_Y1, gR_Y2, gR_Y3, gR_Y4, gR_Y5, gI_Y6, gR_Y7, gR_Y8, gR_Y9, gR_Y10, gI_Y11, gI_Y12, gR_Y13, gR_Y14, gR_Y15, gR_Y16, gR_Y17, gR_Y18, gI_Y19, gI_Y20, gI_Y21, gI_Y22, gI_Y23, gR_Y24, gR_Y25, gR_Y26, gR_Y27, gR_Y28, gI_Y29, gI_Y30, gI_Y31, gR_Y33, gR_Y34, gI_Y35, gR_Y36, cV_Y, bk_some, bind_some', zb_0, zb_1, zb_or, cc_or, kset_1, kset_21, kint_1, kint_21, kint_22, putY_moved, Int32.le_refl, nI_1, if_true, if_false, not_true_eq_false, not_false_eq_true, Bool.false_eq_true, Bool.true_eq_false, reduceIte, ite_true, ite_false]
  · intro k s _
    simp only [c_X4_pairsNow_4, gI_Y0, gR_Y1, gR_Y2, gR_Y3, gR_Y4, gR_Y5, gI_Y6, gR_Y7, gR_Y8, gR_Y9, gR_Y10, gI_Y11, gI_Y12, gR_Y13, gR_Y14, gR_Y15, gR_Y16, gR_Y17, gR_Y18, gI_Y19, gI_Y20, gI_Y21, gI_Y22, gI_Y23, gR_Y24, gR_Y25, gR_Y26, gR_Y27, gR_Y28, gI_Y29, gI_Y30, gI_Y31, gR_Y33, gR_Y34, gI_Y35, gR_Y36, cV_Y, bk_some, bind_some', zb_0, zb_1, zb_or, cc_or, kset_1, kset_21, kint_1, kint_21, kint_22, putY_moved, Int32.le_refl, if_true, if_false, not_true_eq_false, not_false_eq_true, Bool.false_eq_true, Bool.true_eq_false, reduceIte, ite_true, ite_false]
def ofK (k : Int32) (κ : aK) : Int32 := if k = 0 then nI (richK κ) else if k = 1 then nI (louK κ) else if k = 2 then freeK κ else if k = 3 then pairK κ else if k = 4 then hunK κ else -1
theorem N_richest (w : aW) (X : aX) : f_X0_richest 1 (putX w X) = some (nI (richK X.1), putX w X) := by
  rw [X_now w X]; exact (p_richest d10 _).1
theorem N_loudest (w : aW) (X : aX) : f_X0_loudest 1 (putX w X) = some (nI (louK X.1), putX w X) := by
  rw [X_now w X]; exact p_loudest d10 _
theorem N_pairs (w : aW) {X : aX} (hk : X.1.1 ≤ 9) : f_X0_pairsTogether 1 (putX w X) = some (pairK X.1, putX w X) := by
  rw [X_now w X]; exact p_pairs d10 hk
theorem N_hungriest (w : aW) (X : aX) : f_X0_hungriest 1 (putX w X) = some (hunK X.1, putX w X) := by
  rw [X_now w X]; exact p_hungriest d10 _
theorem x_of (w : aW) {X : aX} (hk : X.1.1 ≤ 9) (k : Int32) : f_X3_of 0 k (putX w X) = some (ofK k X.1, putX w X) := by
  unfold f_X3_of ofK
  simp only [gR_X0, gR_X1, gR_X2, gI_X3, gR_X4, gR_X5, gR_X6, cV_X, x_think, xmind_1, xmind_0, xmind_2, xnow_0, xnow_1, xnow_2, bk_some, bind_some', zb_0, zb_1, zb_or, cc_or, N_cV, N_gI0, N_gI1, N_gI2, N_gI3, N_gR4, N_gR5, N_gR6, N_gR7, N_gR8, N_gR9, N_gR10, N_gR11, N_gR12, N_hasBeast, N_isAlive, N_calledBy, N_calledByAnybody, N_needTogether, N_workTogether, N_freeOnes, N_richest, N_loudest, N_pairs w hk, N_hungriest]
  repeat' split
  all_goals rfl
theorem m_of (w : aW) (Y : aY) {κ : aK} (hW : WF κ) (k : Int32) : f_X4_of 50 k (putY w κ Y) = some (ofK k κ, putY w κ (yint Y 1 0)) := by
  unfold f_X4_of ofK
  simp only [sF_Y19, gI_Y0, gR_Y1, gR_Y2, gR_Y3, gR_Y4, gR_Y5, gI_Y6, gR_Y7, gR_Y8, gR_Y9, gR_Y10, gI_Y11, gI_Y12, gR_Y13, gR_Y14, gR_Y15, gR_Y16, gR_Y17, gR_Y18, gI_Y19, gI_Y20, gI_Y21, gI_Y22, gI_Y23, gR_Y24, gR_Y25, gR_Y26, gR_Y27, gR_Y28, gI_Y29, gI_Y30, gI_Y31, gR_Y33, gR_Y34, gI_Y35, gR_Y36, cV_Y, bk_some, bind_some', zb_0, zb_1, zb_or, cc_or, kset_1, kset_21, kint_1, kint_21, kint_22, putY_moved, m_richestOf, m_loudest w _ hW, m_freeBits w _ hW, m_pairs w _ hW.1, m_hungriest w _ hW]
  repeat' split
  all_goals rfl
/-! image, restore -/
theorem x_image (w : aW) (X : aX) : f_X3_image 0 (putX w X) = some (X.1.2.1 0, putX w (xhp (xpict X X.1) 1)) := by
  have e := p_becomeAs (w := putX w X) (j1 := 21) (j2 := 1) (by decide) (by decide) (by decide) X.2.2.1 X.1
  rw [← X_now, ← X_pict, X_pict'] at e
  have c : ∀ x : Option (Int32 × aW), cV 0 (putX w X) 21 x = x := fun x => by
    rw [X_pict w X]; exact cV_M (by decide) _ x
  unfold f_X3_image
  simp only [gR_X0, gR_X1, gR_X2, gI_X3, gR_X4, gR_X5, gR_X6, cV_X, x_think, xmind_1, xmind_0, xmind_2, xnow_0, xnow_1, xnow_2, bk_some, bind_some', zb_0, zb_1, zb_or, cc_or, N_cV, N_gI0, N_gI1, N_gI2, N_gI3, N_gR4, N_gR5, N_gR6, N_gR7, N_gR8, N_gR9, N_gR10, N_gR11, N_gR12, N_hasBeast, N_isAlive, N_calledBy, N_calledByAnybody, N_needTogether, N_workTogether, N_freeOnes, e, c, sF_X3]
  rfl
theorem x_restore (w : aW) (X : aX) : f_X3_restore 0 (putX w X) = if X.2.2.2.1 = 0 then some (-3, putX w X) else some (X.2.2.1.2.1 0, putX w (xnow X X.2.2.1)) := by
  have e := p_becomeAs (w := putX w X) (j1 := 1) (j2 := 21) (by decide) (by decide) (by decide) X.1 X.2.2.1
  rw [← X_pict, ← X_now, X_now'] at e
  unfold f_X3_restore
  by_cases h : X.2.2.2.1 = 0
  · simp only [gR_X0, gR_X1, gR_X2, gI_X3, gR_X4, gR_X5, gR_X6, cV_X, x_think, xmind_1, xmind_0, xmind_2, xnow_0, xnow_1, xnow_2, bk_some, bind_some', zb_0, zb_1, zb_or, cc_or, h, if_true, if_false, not_true_eq_false, not_false_eq_true, Bool.false_eq_true, Bool.true_eq_false, reduceIte, ite_true, ite_false]
  · simp only [gR_X0, gR_X1, gR_X2, gI_X3, gR_X4, gR_X5, gR_X6, cV_X, x_think, xmind_1, xmind_0, xmind_2, xnow_0, xnow_1, xnow_2, bk_some, bind_some', zb_0, zb_1, zb_or, cc_or, N_cV, N_gI0, N_gI1, N_gI2, N_gI3, N_gR4, N_gR5, N_gR6, N_gR7, N_gR8, N_gR9, N_gR10, N_gR11, N_gR12, N_hasBeast, N_isAlive, N_calledBy, N_calledByAnybody, N_needTogether, N_workTogether, N_freeOnes, h, e, if_true, if_false, not_true_eq_false, not_false_eq_true, Bool.false_eq_true, Bool.true_eq_false, reduceIte, ite_true, ite_false]
theorem m_image (w : aW) (Y : aY) {κ : aK} (hk9 : κ.1 ≤ 9) : ∃ Y', Y'.1 0 = Y.1 0 ∧ Y'.1 6 = 1 ∧ Kept Y' 9 κ ∧ (∀ k, k < 5 → Y'.2.1 k = Y.2.1 k) ∧ Y'.2.2.2.1 = Y.2.2.2.1 ∧ f_X4_image 50 (putY w κ Y) = some (κ.2.1 0, putY w κ Y') := by
  obtain ⟨Y', h1, h2, h3, h4⟩ := m_take (r := 70) (Or.inr rfl) w (yint (yint Y 1 0) 6 1) hk9
  refine ⟨Y', h1.1, h1.2.1, h2, h1.2.2.1, h1.2.2.2, ?_⟩
  unfold f_X4_image
  simp only [sF_Y19, sF_Y29, gI_Y0, gR_Y1, gR_Y2, gR_Y3, gR_Y4, gR_Y5, gI_Y6, gR_Y7, gR_Y8, gR_Y9, gR_Y10, gI_Y11, gI_Y12, gR_Y13, gR_Y14, gR_Y15, gR_Y16, gR_Y17, gR_Y18, gI_Y19, gI_Y20, gI_Y21, gI_Y22, gI_Y23, gR_Y24, gR_Y25, gR_Y26, gR_Y27, gR_Y28, gI_Y29, gI_Y30, gI_Y31, gR_Y33, gR_Y34, gI_Y35, gR_Y36, cV_Y, bk_some, bind_some', zb_0, zb_1, zb_or, cc_or, kset_1, kset_21, kint_1, kint_21, kint_22, putY_moved, h4]
theorem m_restore (w : aW) (Y : aY) (κ : aK) {κ0 : aK} (hk9 : κ0.1 ≤ 9) (hK : ¬ Y.1 6 = 0 → Kept Y 9 κ0) : ∃ Y', Yk Y Y' ∧ f_X4_restore 50 (putY w κ Y) = if Y.1 6 = 0 then some (-3, putY w κ Y') else some (κ0.2.1 0, putY w κ0 Y') := by
  unfold f_X4_restore
  by_cases h : Y.1 6 = 0
  · refine ⟨yint Y 1 0, Yk.thrown Y 0, ?_⟩
    have h' : (yint Y 1 0).1 6 = 0 := h
    simp only [sF_Y19, gI_Y0, gR_Y1, gR_Y2, gR_Y3, gR_Y4, gR_Y5, gI_Y6, gR_Y7, gR_Y8, gR_Y9, gR_Y10, gI_Y11, gI_Y12, gR_Y13, gR_Y14, gR_Y15, gR_Y16, gR_Y17, gR_Y18, gI_Y19, gI_Y20, gI_Y21, gI_Y22, gI_Y23, gR_Y24, gR_Y25, gR_Y26, gR_Y27, gR_Y28, gI_Y29, gI_Y30, gI_Y31, gR_Y33, gR_Y34, gI_Y35, gR_Y36, cV_Y, bk_some, bind_some', zb_0, zb_1, zb_or, cc_or, kset_1, kset_21, kint_1, kint_21, kint_22, putY_moved, h, h', if_true, if_false, not_true_eq_false, not_false_eq_true, Bool.false_eq_true, Bool.true_eq_false, reduceIte, ite_true, ite_false]
  · obtain ⟨Y', h1, h2, h4⟩ := m_back (r := 70) (Or.inr rfl) w κ (yint Y 1 0) hk9 (hK h)
    refine ⟨Y', (Yk.thrown Y 0).trans ⟨h1, h2 9 (by decide) (by decide)⟩, ?_⟩
    have h' : ¬ (yint Y 1 0).1 6 = 0 := h
    simp only [sF_Y19, gI_Y0, gR_Y1, gR_Y2, gR_Y3, gR_Y4, gR_Y5, gI_Y6, gR_Y7, gR_Y8, gR_Y9, gR_Y10, gI_Y11, gI_Y12, gR_Y13, gR_Y14, gR_Y15, gR_Y16, gR_Y17, gR_Y18, gI_Y19, gI_Y20, gI_Y21, gI_Y22, gI_Y23, gR_Y24, gR_Y25, gR_Y26, gR_Y27, gR_Y28, gI_Y29, gI_Y30, gI_Y31, gR_Y33, gR_Y34, gI_Y35, gR_Y36, cV_Y, bk_some, bind_some', zb_0, zb_1, zb_or, cc_or, kset_1, kset_21, kint_1, kint_21, kint_22, putY_moved, h, h', h4, if_true, if_false, not_true_eq_false, not_false_eq_true, Bool.false_eq_true, Bool.true_eq_false, reduceIte, ite_true, ite_false]
