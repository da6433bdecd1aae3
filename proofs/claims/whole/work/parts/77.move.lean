/-! PURE: who has moved -/
theorem itr_keep {τ : Type} {F : Nat → aK → aK} {g : aK → τ} (h : ∀ i κ, g (F i κ) = g κ) : ∀ (n a : Nat) (κ : aK), g (itr F a n κ) = g κ
  | 0, _, _ => rfl
  | n + 1, a, κ => (itr_keep h n (a + 1) (F a κ)).trans (h a κ)
def pm (κ : aK) : (Nat → Int32) × Int32 := (κ.2.2 2, κ.2.1 2)
theorem opt_pm (κ : aK) (o : Option Nat) (x : Int32) : pm (optS κ o x) = pm κ := by cases o <;> rfl
theorem give_pm (P : Nat → Bool) (x : Int32) (i : Nat) (κ : aK) : pm (giveF P x i κ) = pm κ := by
  unfold giveF; split <;> rfl
theorem sp_pm (p : Nat) (κ : aK) : pm (spF p κ) = pm κ := by
  unfold spF speakK
  repeat' split
  · rfl
  · exact opt_pm _ _ _
  · exact opt_pm _ _ _
  · exact itr_keep (give_pm _ _) 9 0 κ
  · rfl
theorem fe_pm (m : Int32) (i : Nat) (κ : aK) : pm (feF m i κ) = pm κ := by
  unfold feF feedK starveK
  dsimp only
  repeat' split
  all_goals rfl
theorem or_lt {a i : Nat} (ha : a < 512) (hi : i < 9) : ∃ b, b < 512 ∧ nI a ||| oneI i = nI b := b_lt (fun z h9 h32 => by
  rw [← bit_bt _ h32, bit_or _ h32 (by omega), bit_lt ha h9 h32, decide_eq_false (by omega)]; rfl)
def MvI (κ0 : aK) (n : Nat) (κ : aK) : Prop := WF κ ∧ κ.1 = κ0.1 ∧ (∀ i, i < 9 → n ≤ i ∨ κ0.1 ≤ i → κ.2.2 2 i = κ0.2.2 2 i) ∧ (∀ i, i < 9 → bitB (κ.2.1 2) (nI i) = !decide (κ.2.2 2 i = κ0.2.2 2 i)) ∧ ∃ a, a < 512 ∧ κ.2.1 2 = nI a
theorem step_ne : ∀ x, x < 16 → nI x + -1 ≠ nI x ∧ nI x + 1 ≠ nI x := by decide
theorem Mv_go {κ0 κ : aK} {n : Nat} (hn : n < 9) (h : MvI κ0 n κ) : MvI κ0 (n + 1) (goF n κ) := by
  obtain ⟨hW, h1, h2, h3, a, ha, h4⟩ := h
  have hs : MvI κ0 (n + 1) κ := ⟨hW, h1, fun i hi hi' => h2 i hi (by omega), h3, a, ha, h4⟩
  have hW' := go_WF hW hn
  unfold goF goTowK at hW' ⊢
  by_cases hA : bitB (κ.2.1 1) (nI n) = true
  · rw [if_pos hA] at hW' ⊢
    by_cases e1 : wantsK κ n (κ.2.1 0) = -4
    · rw [if_pos e1]; exact hs
    · rw [if_neg e1] at hW' ⊢
      by_cases e2 : wantsK κ n (κ.2.1 0) = κ.2.2 2 n
      · rw [if_pos e2]; exact hs
      · rw [if_neg e2] at hW' ⊢
        have hm : n < κ.1 := hW.many hn hA
        obtain ⟨x, hx, hpx⟩ := (hW.2.1 n hn).2.2.1
        have hne : κ.2.2 2 n + (if wantsK κ n (κ.2.1 0) ≤ κ.2.2 2 n then -1 else 1) ≠ κ.2.2 2 n := by
          rw [hpx]
          split
          · exact (step_ne x (by omega)).1
          · exact (step_ne x (by omega)).2
        have hp0 := h2 n hn (Or.inl (Nat.le_refl _))
        refine ⟨hW', h1, fun i hi hi' => ?_, fun i hi => ?_, ?_⟩
        · have : i ≠ n := by omega
          show upd (κ.2.2 2) n _ i = _
          unfold upd
          rw [if_neg this]
          exact h2 i hi (by omega)
        · show bitB (κ.2.1 2 ||| oneI n) (nI i) = !decide (upd (κ.2.2 2) n _ i = _)
          rw [bit_or _ (by omega) (by omega), h3 i hi]
          unfold upd
          by_cases hin : i = n
          · subst hin
            rw [if_pos rfl, decide_eq_true rfl, Bool.or_true, decide_eq_false (by rw [← hp0]; exact hne)]
            rfl
          · rw [if_neg hin, decide_eq_false hin, Bool.or_false]
        · show ∃ a, a < 512 ∧ κ.2.1 2 ||| oneI n = nI a
          rw [h4]
          exact or_lt ha hn
  · rw [if_neg hA]; exact hs
theorem pass_moved {κ : aK} (hW : WF κ) : (∀ i, i < 9 → bitB ((passK 0 κ).2.1 2) (nI i) = !decide ((passK 0 κ).2.2 2 i = κ.2.2 2 i)) ∧ (∃ a, a < 512 ∧ (passK 0 κ).2.1 2 = nI a) ∧ (∀ i, i < 9 → κ.1 ≤ i → (passK 0 κ).2.2 2 i = κ.2.2 2 i) := by
  have h : ∀ m n κ', n + m = 9 → MvI κ n κ' → MvI κ 9 (itr goF n m κ') := by
    intro m
    induction m with
    | zero => intro n κ' hn h; have : n = 9 := by omega
              subst this; exact h
    | succ m ih => intro n κ' hn h; exact ih (n + 1) (goF n κ') (by omega) (Mv_go (by omega) h)
  have h0 := h 9 0 (kint (kint κ 0 (κ.2.1 0 + 1)) 2 0) rfl ⟨pass_WF0 hW, rfl, fun i _ _ => rfl, fun i hi => by
    show bitB 0 (nI i) = !decide (κ.2.2 2 i = κ.2.2 2 i)
    rw [bit_0 (by omega), decide_eq_true rfl]; rfl, 0, by decide, rfl⟩
  have e : pm (passK 0 κ) = pm (itr goF 0 9 (kint (kint κ 0 (κ.2.1 0 + 1)) 2 0)) := (itr_keep (fe_pm 0) 9 0 _).trans (itr_keep sp_pm 5 0 _)
  have e1 : (passK 0 κ).2.2 2 = _ := congrArg Prod.fst e
  have e2 : (passK 0 κ).2.1 2 = _ := congrArg Prod.snd e
  rw [e1, e2]
  exact ⟨h0.2.2.2.1, h0.2.2.2.2, fun i hi hk => h0.2.2.1 i hi (Or.inr hk)⟩
def Marked (y : aY) (κ : aK) : Prop := ∀ i, i < κ.1 → y.2.1 10 i = κ.2.2 2 i
theorem m_mark (w : aW) (Y : aY) {κ : aK} (hk9 : κ.1 ≤ 9) : ∃ Y', Yk Y Y' ∧ (∀ k, k ≠ 10 → Y'.2.1 k = Y.2.1 k) ∧ Marked Y' κ ∧ f_X4_mark 50 (putY w κ Y) = some ((), putY w κ Y') := by
  refine ⟨itr (fun i Y => yset Y 10 i (κ.2.2 2 i)) 0 κ.1 Y, ?_, ?_, ?_, ?_⟩
  · exact itr_inv (I := fun Y' => Yk Y Y') κ.1 0 Y (Yk.refl Y) (fun i Y' _ _ h => h.trans ⟨⟨rfl, rfl, fun k hk => if_neg (by omega), rfl⟩, rfl⟩)
  · exact itr_inv (I := fun Y' : aY => ∀ k, k ≠ 10 → Y'.2.1 k = Y.2.1 k) κ.1 0 Y (fun _ _ => rfl) (fun i Y' _ _ h k hk => (if_neg hk).trans (h k hk))
  · have : ∀ m n Y', n + m = κ.1 → (∀ i, i < n → Y'.2.1 10 i = κ.2.2 2 i) → ∀ i, i < κ.1 → (itr (fun i Y => yset Y 10 i (κ.2.2 2 i)) n m Y').2.1 10 i = κ.2.2 2 i := by
      intro m
      induction m with
      | zero => intro n Y' hn h i hi; exact h i (by omega)
      | succ m ih =>
        intro n Y' hn h
        refine ih (n + 1) _ (by omega) (fun i hi => ?_)
        show upd (Y'.2.1 10) n _ i = _
        unfold upd
        by_cases hin : i = n
        · rw [if_pos hin, hin]
        · rw [if_neg hin]; exact h i (by omega)
    exact this κ.1 0 Y (by omega) (fun i hi => by omega)
  · unfold f_X4_mark
    refine for2 (fun Y : aY => putY w κ Y) (c_X4_mark_2 50) κ.1 (fun i Y => yset Y 10 i (κ.2.2 2 i)) (fun Y => some ((), putY w κ Y)) (fun _ _ => True) ?_ (fun _ _ _ _ => trivial) ?_ κ.1 0 Y a_fuel (by omega) (show κ.1 < 1000 by omega) trivial
    · intro k i Y hi _
      simp only [c_X4_mark_2, gI_Y0, gR_Y1, gR_Y2, gR_Y3, gR_Y4, gR_Y5, gI_Y6, gR_Y7, gR_Y8, gR_Y9, gR_Y10, gI_Y11, gI_Y12, gR_Y13, gR_Y14, gR_Y15, gR_Y16, gR_Y17, gR_Y18, gI_Y19, gI_Y20, gI_Y21, gI_Y22, gI_Y23, gR_Y24, gR_Y25, gR_Y26, gR_Y27, gR_Y28, gI_Y29, gI_Y30, gI_Y31, gR_Y33, gR_Y34, gI_Y35, gR_Y36, cV_Y, bk_some, bind_some', zb_0, zb_1, zb_or, cc_or, kset_1, kset_21, kint_1, kint_21, kint_22, putY_moved, lt_9I hi hk9, gA_Y53 w Y hk9 hi, sA_Y71 w κ Y (show i < 9 by omega), nI_1, if_true, if_false, not_true_eq_false, not_false_eq_true, Bool.false_eq_true, Bool.true_eq_false, reduceIte, ite_true, ite_false]
    · intro k Y _
      simp only [c_X4_mark_2, gI_Y0, gR_Y1, gR_Y2, gR_Y3, gR_Y4, gR_Y5, gI_Y6, gR_Y7, gR_Y8, gR_Y9, gR_Y10, gI_Y11, gI_Y12, gR_Y13, gR_Y14, gR_Y15, gR_Y16, gR_Y17, gR_Y18, gI_Y19, gI_Y20, gI_Y21, gI_Y22, gI_Y23, gR_Y24, gR_Y25, gR_Y26, gR_Y27, gR_Y28, gI_Y29, gI_Y30, gI_Y31, gR_Y33, gR_Y34, gI_Y35, gR_Y36, cV_Y, bk_some, bind_some', zb_0, zb_1, zb_or, cc_or, kset_1, kset_21, kint_1, kint_21, kint_22, putY_moved, Int32.le_refl, if_true, if_false, not_true_eq_false, not_false_eq_true, Bool.false_eq_true, Bool.true_eq_false, reduceIte, ite_true, ite_false]
def mvB (y : aY) (κ : aK) (i : Nat) : Bool := !decide (y.2.1 10 i = κ.2.2 2 i)
theorem m_movedBits (w : aW) (Y : aY) {κ : aK} (hk9 : κ.1 ≤ 9) : f_X4_movedBits 50 (putY w κ Y) = some (mskK (mvB Y κ) κ.1, putY w κ Y) := by
  unfold f_X4_movedBits
  refine for3 (fun s : Int32 => s) (fun _ => putY w κ Y) (c_X4_movedBits_4 50) κ.1 (mskF (mvB Y κ)) (fun s => some (s, putY w κ Y)) (fun _ _ => True) ?_ (fun _ _ _ _ => trivial) ?_ κ.1 0 0 a_fuel (by omega) (show κ.1 < 1000 by omega) trivial
  · intro k i s hi _
    simp only [c_X4_movedBits_4, gI_Y0, gR_Y1, gR_Y2, gR_Y3, gR_Y4, gR_Y5, gI_Y6, gR_Y7, gR_Y8, gR_Y9, gR_Y10, gI_Y11, gI_Y12, gR_Y13, gR_Y14, gR_Y15, gR_Y16, gR_Y17, gR_Y18, gI_Y19, gI_Y20, gI_Y21, gI_Y22, gI_Y23, gR_Y24, gR_Y25, gR_Y26, gR_Y27, gR_Y28, gI_Y29, gI_Y30, gI_Y31, gR_Y33, gR_Y34, gI_Y35, gR_Y36, cV_Y, bk_some, bind_some', zb_0, zb_1, zb_or, cc_or, kset_1, kset_21, kint_1, kint_21, kint_22, putY_moved, lt_9I hi hk9, gA_Y53 w Y hk9 hi, gA_Y71 w κ Y (show i < 9 by omega), if_true, if_false, not_true_eq_false, not_false_eq_true, Bool.false_eq_true, Bool.true_eq_false, reduceIte, ite_true, ite_false, nI_1, i32_or0]
    unfold mskF oneI mvB
    by_cases h : Y.2.1 10 i = κ.2.2 2 i <;> simp [h]
  · intro k s _
    simp only [c_X4_movedBits_4, gI_Y0, gR_Y1, gR_Y2, gR_Y3, gR_Y4, gR_Y5, gI_Y6, gR_Y7, gR_Y8, gR_Y9, gR_Y10, gI_Y11, gI_Y12, gR_Y13, gR_Y14, gR_Y15, gR_Y16, gR_Y17, gR_Y18, gI_Y19, gI_Y20, gI_Y21, gI_Y22, gI_Y23, gR_Y24, gR_Y25, gR_Y26, gR_Y27, gR_Y28, gI_Y29, gI_Y30, gI_Y31, gR_Y33, gR_Y34, gI_Y35, gR_Y36, cV_Y, bk_some, bind_some', zb_0, zb_1, zb_or, cc_or, kset_1, kset_21, kint_1, kint_21, kint_22, putY_moved, Int32.le_refl, if_true, if_false, not_true_eq_false, not_false_eq_true, Bool.false_eq_true, Bool.true_eq_false, reduceIte, ite_true, ite_false]
def anyF (P : Nat → Bool) (i : Nat) (s : Bool) : Bool := s || P i
theorem m_isMoved (w : aW) (Y : aY) {κ : aK} (hk9 : κ.1 ≤ 9) : f_X4_isMoved 50 (putY w κ Y) = some (zb (itr (anyF (mvB Y κ)) 0 κ.1 false), putY w κ Y) := by
  unfold f_X4_isMoved
  refine for3 (fun s : Bool => zb s) (fun _ => putY w κ Y) (c_X4_isMoved_4 50) κ.1 (anyF (mvB Y κ)) (fun s => some (zb s, putY w κ Y)) (fun _ _ => True) ?_ (fun _ _ _ _ => trivial) ?_ κ.1 0 false a_fuel (by omega) (show κ.1 < 1000 by omega) trivial
  · intro k i s hi _
    simp only [c_X4_isMoved_4, gI_Y0, gR_Y1, gR_Y2, gR_Y3, gR_Y4, gR_Y5, gI_Y6, gR_Y7, gR_Y8, gR_Y9, gR_Y10, gI_Y11, gI_Y12, gR_Y13, gR_Y14, gR_Y15, gR_Y16, gR_Y17, gR_Y18, gI_Y19, gI_Y20, gI_Y21, gI_Y22, gI_Y23, gR_Y24, gR_Y25, gR_Y26, gR_Y27, gR_Y28, gI_Y29, gI_Y30, gI_Y31, gR_Y33, gR_Y34, gI_Y35, gR_Y36, cV_Y, bk_some, bind_some', zb_0, zb_1, zb_or, cc_or, kset_1, kset_21, kint_1, kint_21, kint_22, putY_moved, lt_9I hi hk9, gA_Y53 w Y hk9 hi, gA_Y71 w κ Y (show i < 9 by omega), if_true, if_false, not_true_eq_false, not_false_eq_true, Bool.false_eq_true, Bool.true_eq_false, reduceIte, ite_true, ite_false, nI_1]
    unfold anyF mvB
    cases s
    · by_cases h : Y.2.1 10 i = κ.2.2 2 i <;> simp [h, zb]
    · simp [zb]
  · intro k s _
    simp only [c_X4_isMoved_4, gI_Y0, gR_Y1, gR_Y2, gR_Y3, gR_Y4, gR_Y5, gI_Y6, gR_Y7, gR_Y8, gR_Y9, gR_Y10, gI_Y11, gI_Y12, gR_Y13, gR_Y14, gR_Y15, gR_Y16, gR_Y17, gR_Y18, gI_Y19, gI_Y20, gI_Y21, gI_Y22, gI_Y23, gR_Y24, gR_Y25, gR_Y26, gR_Y27, gR_Y28, gI_Y29, gI_Y30, gI_Y31, gR_Y33, gR_Y34, gI_Y35, gR_Y36, cV_Y, bk_some, bind_some', zb_0, zb_1, zb_or, cc_or, kset_1, kset_21, kint_1, kint_21, kint_22, putY_moved, Int32.le_refl, if_true, if_false, not_true_eq_false, not_false_eq_true, Bool.false_eq_true, Bool.true_eq_false, reduceIte, ite_true, ite_false]
theorem any_itr (P : Nat → Bool) : ∀ (n a : Nat) (s : Bool), itr (anyF P) a n s = true ↔ s = true ∨ ∃ i, a ≤ i ∧ i < a + n ∧ P i = true
  | 0, a, s => ⟨fun h => Or.inl h, fun h => h.elim id (fun ⟨i, h1, h2, _⟩ => by omega)⟩
  | n + 1, a, s => by
    show itr (anyF P) (a + 1) n (s || P a) = true ↔ _
    rw [any_itr P n (a + 1) _, Bool.or_eq_true]
    constructor
    · rintro ((h | h) | ⟨i, h1, h2, h3⟩)
      · exact Or.inl h
      · exact Or.inr ⟨a, Nat.le_refl _, by omega, h⟩
      · exact Or.inr ⟨i, by omega, by omega, h3⟩
    · rintro (h | ⟨i, h1, h2, h3⟩)
      · exact Or.inl (Or.inl h)
      · by_cases hi : i = a
        · exact Or.inl (Or.inr (hi ▸ h3))
        · exact Or.inr ⟨i, by omega, by omega, h3⟩
theorem moved_bits {κ : aK} {Y : aY} (hW : WF κ) (hM : Marked Y κ) : mskK (mvB Y (passK 0 κ)) κ.1 = (passK 0 κ).2.1 2 := by
  have hk9 := hW.1
  obtain ⟨h1, ⟨a, ha, h2⟩, h3⟩ := pass_moved hW
  obtain ⟨c, hc, hC⟩ := msk_lt (mvB Y (passK 0 κ)) hk9
  rw [hC, h2]
  refine ext9 hc ha (fun i hi => ?_)
  rw [← h2, ← hC, h1 i hi, bit_msk _ (by omega) (by omega)]
  by_cases h : i < κ.1
  · rw [decide_eq_true h, Bool.true_and]
    unfold mvB
    rw [hM i h]
    congr 1
    exact decide_eq_decide.mpr eq_comm
  · rw [decide_eq_false h, Bool.false_and, h3 i hi (by omega), decide_eq_true rfl]; rfl
theorem moved_any {κ : aK} {Y : aY} (hW : WF κ) (hM : Marked Y κ) : itr (anyF (mvB Y (passK 0 κ))) 0 κ.1 false = !decide ((passK 0 κ).2.1 2 = 0) := by
  have hk9 := hW.1
  rw [← moved_bits hW hM]
  by_cases h : itr (anyF (mvB Y (passK 0 κ))) 0 κ.1 false = true
  · rw [h]
    obtain ⟨i, -, hi, hP⟩ := ((any_itr _ _ _ _).mp h).resolve_left (by decide)
    rw [decide_eq_false]
    · rfl
    · intro h0
      have := bit_msk (mvB Y (passK 0 κ)) (n := κ.1) (i := i) (by omega) (by omega)
      rw [h0, bit_0 (by omega), hP, decide_eq_true (by omega)] at this
      exact absurd this (by decide)
  · rw [Bool.eq_false_iff.mpr h, decide_eq_true]
    · rfl
    · refine itr_same κ.1 0 0 (fun i _ hi => ?_)
      unfold mskF
      rw [if_neg]
      intro hP
      exact h ((any_itr _ _ _ _).mpr (Or.inr ⟨i, by omega, hi, hP⟩))
