theorem ks_W (κ : aK) (k i : Nat) (x : Int32) : (kset κ k i x).1 = κ.1 := rfl
set_option maxHeartbeats 2000000 in
theorem m_isFed (w : aW) (y : aY) {κ : aK} (hW : WF κ) {i m : Nat} (hi : i < κ.1) (hs : y.1 0 = nI m) (hm : m ≤ 2) : f_X4_isFed 50 (nI i) (putY w κ y) = some ((), putY w (feedK κ i (nI m)) y) := by
  have hk := hW.1
  have hi9 : i < 9 := by omega
  obtain ⟨⟨s, hs', es⟩, ⟨f, hf, ef⟩, -, ⟨h, hh, eh⟩, hc⟩ := hW.2.1 i hi9
  have h1 : heldI (κ.2.2 3 i + 1) 9 = minI (κ.2.2 3 i + 1) 9 := by rw [eh, nI_1]; exact held_min (c := 9) (by omega) (by omega)
  have h2 : heldI (κ.2.2 3 i + 2) 9 = minI (κ.2.2 3 i + 2) 9 := by rw [eh, show (2 : Int32) = nI 2 from rfl, nI_add]; exact held_min (c := 9) (by omega) (by omega)
  have s3 : ∀ (κ' : aK) x, κ'.1 = κ.1 → sA (putY w κ' y) 54 (nI i) x = some (putY w (kset κ' 3 i x) y) := fun κ' x e => sA_Y54 w y (by omega) (by omega) x
  have s4 : ∀ (κ' : aK) x, κ'.1 = κ.1 → sA (putY w κ' y) 55 (nI i) x = some (putY w (kset κ' 4 i x) y) := fun κ' x e => sA_Y55 w y (by omega) (by omega) x
  have s4' : ∀ x1 x2 x, sA (putY w (kint (kset κ 3 i x1) 1 x2) y) 55 (nI i) x = some (putY w (kset (kint (kset κ 3 i x1) 1 x2) 4 i x) y) := fun x1 x2 x => s4 _ _ rfl
  have s3' : ∀ p x1 x, sA (putY w (kset κ 5 p x1) y) 54 (nI i) x = some (putY w (kset (kset κ 5 p x1) 3 i x) y) := fun p x1 x => s3 _ _ rfl
  have g3 : ∀ (κ' : aK), κ'.1 = κ.1 → gA (putY w κ' y) 54 (nI i) = some (κ'.2.2 3 i) := fun κ' e => gA_Y54 w y (by omega) (by omega)
  unfold f_X4_isFed feedK
  rcases hc with hc | ⟨p, hp, hc⟩
  · simp only [gI_Y0, gR_Y1, gR_Y2, gR_Y3, gR_Y4, gR_Y5, gI_Y6, gR_Y7, gR_Y8, gR_Y9, gR_Y10, gI_Y11, gI_Y12, gR_Y13, gR_Y14, gR_Y15, gR_Y16, gR_Y17, gR_Y18, gI_Y19, gI_Y20, gI_Y21, gI_Y22, gI_Y23, gR_Y24, gR_Y25, gR_Y26, gR_Y27, gR_Y28, gI_Y29, gI_Y30, gI_Y31, gR_Y33, gR_Y34, gI_Y35, gR_Y36, cV_Y, bk_some, bind_some', zb_0, zb_1, zb_or, cc_or, kset_1, kset_21, kint_1, kint_21, kint_22, putY_moved, gA_Y55 w y hk hi, hc, m4_neg, g3 κ rfl, p_held, h1, s3 κ _ rfl, if_true, if_false, not_true_eq_false, not_false_eq_true, Bool.false_eq_true, Bool.true_eq_false, reduceIte, ite_true, ite_false]
  · obtain ⟨q, hq, eq⟩ := (hW.2.2.1 p hp).1
    obtain ⟨g, hg, eg⟩ := (hW.2.2.1 p hp).2.2.2
    obtain ⟨n, hn, en⟩ := needI_rng hs' hf
    obtain ⟨v, hv, ev⟩ := workI_rng hs' hf
    have en' : needI (κ.2.2 0 i) (κ.2.2 1 i) = nI n := by rw [es, ef]; exact en
    have ev' : workI (κ.2.2 0 i) (κ.2.2 1 i) = nI v := by rw [es, ef]; exact ev
    simp only [gI_Y0, gR_Y1, gR_Y2, gR_Y3, gR_Y4, gR_Y5, gI_Y6, gR_Y7, gR_Y8, gR_Y9, gR_Y10, gI_Y11, gI_Y12, gR_Y13, gR_Y14, gR_Y15, gR_Y16, gR_Y17, gR_Y18, gI_Y19, gI_Y20, gI_Y21, gI_Y22, gI_Y23, gR_Y24, gR_Y25, gR_Y26, gR_Y27, gR_Y28, gI_Y29, gI_Y30, gI_Y31, gR_Y33, gR_Y34, gI_Y35, gR_Y36, cV_Y, bk_some, bind_some', zb_0, zb_1, zb_or, cc_or, kset_1, kset_21, kint_1, kint_21, kint_22, putY_moved, gA_Y55 w y hk hi, hc, nI_pos' (show p < 2 ^ 31 by omega), gA_Y56 w κ y hp, m_needOf w y hW hi, hs, needK, nI_ne4 (show p < 2 ^ 31 by omega), nI_clamp (show p < 2 ^ 31 by omega), m_workOf w y hW hi, workK, if_true, if_false, not_true_eq_false, not_false_eq_true, Bool.false_eq_true, Bool.true_eq_false, reduceIte, ite_true, ite_false]
    by_cases hlt : κ.2.2 5 p < needI (κ.2.2 0 i) (κ.2.2 1 i) + nI m
    · simp only [hlt, if_true, if_false, not_true_eq_false, not_false_eq_true, Bool.false_eq_true, Bool.true_eq_false, reduceIte, ite_true, ite_false, g3 κ rfl, p_held, h2, s3 κ _ rfl, gI_Y0, gR_Y1, gR_Y2, gR_Y3, gR_Y4, gR_Y5, gI_Y6, gR_Y7, gR_Y8, gR_Y9, gR_Y10, gI_Y11, gI_Y12, gR_Y13, gR_Y14, gR_Y15, gR_Y16, gR_Y17, gR_Y18, gI_Y19, gI_Y20, gI_Y21, gI_Y22, gI_Y23, gR_Y24, gR_Y25, gR_Y26, gR_Y27, gR_Y28, gI_Y29, gI_Y30, gI_Y31, gR_Y33, gR_Y34, gI_Y35, gR_Y36, cV_Y, bk_some, bind_some', zb_0, zb_1, zb_or, cc_or, kset_1, kset_21, kint_1, kint_21, kint_22, putY_moved]
      rw [g3 (kset κ 3 i _) rfl]
      simp only [bind_some', kset_22, and_self, if_true]
      unfold starveK
      dsimp only
      by_cases h9 : minI (κ.2.2 3 i + 2) 9 = 9
      · have e8 : heldI (κ.2.2 8 p + 1) 99 = minI (κ.2.2 8 p + 1) 99 := by rw [eg, nI_1]; exact held_min (c := 99) (by omega) (by omega)
        rw [if_neg (by simpa using h9), if_neg (by simpa using h9)]
        simp only [gI_Y0, gR_Y1, gR_Y2, gR_Y3, gR_Y4, gR_Y5, gI_Y6, gR_Y7, gR_Y8, gR_Y9, gR_Y10, gI_Y11, gI_Y12, gR_Y13, gR_Y14, gR_Y15, gR_Y16, gR_Y17, gR_Y18, gI_Y19, gI_Y20, gI_Y21, gI_Y22, gI_Y23, gR_Y24, gR_Y25, gR_Y26, gR_Y27, gR_Y28, gI_Y29, gI_Y30, gI_Y31, gR_Y33, gR_Y34, gI_Y35, gR_Y36, cV_Y, bk_some, bind_some', zb_0, zb_1, zb_or, cc_or, kset_1, kset_21, kint_1, kint_21, kint_22, putY_moved, sF_Y6, bind_some']
        rw [s4']
        simp only [gI_Y0, gR_Y1, gR_Y2, gR_Y3, gR_Y4, gR_Y5, gI_Y6, gR_Y7, gR_Y8, gR_Y9, gR_Y10, gI_Y11, gI_Y12, gR_Y13, gR_Y14, gR_Y15, gR_Y16, gR_Y17, gR_Y18, gI_Y19, gI_Y20, gI_Y21, gI_Y22, gI_Y23, gR_Y24, gR_Y25, gR_Y26, gR_Y27, gR_Y28, gI_Y29, gI_Y30, gI_Y31, gR_Y33, gR_Y34, gI_Y35, gR_Y36, cV_Y, bk_some, bind_some', zb_0, zb_1, zb_or, cc_or, kset_1, kset_21, kint_1, kint_21, kint_22, putY_moved, bind_some']
        rw [gA_Y59 _ _ _ hp]
        simp only [bind_some', p_held, bk_some, kset_22, kint_22]
        rw [show (if (8 : Nat) = 4 ∧ p = i then (-4 : Int32) else if (8 : Nat) = 3 ∧ p = i then minI (κ.2.2 3 i + 2) 9 else κ.2.2 8 p) = κ.2.2 8 p by simp]
        rw [e8, sA_Y59 _ _ _ hp]
        rfl
      · rw [if_pos h9, if_pos h9]
    · simp only [hlt, if_true, if_false, not_true_eq_false, not_false_eq_true, Bool.false_eq_true, Bool.true_eq_false, reduceIte, ite_true, ite_false, p_held]
      have e9 : heldI (κ.2.2 5 p - needI (κ.2.2 0 i) (κ.2.2 1 i) - nI m + workI (κ.2.2 0 i) (κ.2.2 1 i)) 999 = minI (κ.2.2 5 p - (needI (κ.2.2 0 i) (κ.2.2 1 i) + nI m) + workI (κ.2.2 0 i) (κ.2.2 1 i)) 999 := by
        rw [eq, en', ev', nI_add] at *
        rw [nI_ltI (by omega) (by omega)] at hlt
        rw [pk_sub (show n ≤ q by omega), pk_sub (show m ≤ q - n by omega), pk_sub (show n + m ≤ q by omega), nI_add, nI_add, show q - n - m + v = q - (n + m) + v by omega]
        exact held_min (c := 999) (by omega) (by omega)
      simp only [bk_some]
      rw [e9, sA_Y56 w κ y hp]
      simp only [bind_some', gI_Y0, gR_Y1, gR_Y2, gR_Y3, gR_Y4, gR_Y5, gI_Y6, gR_Y7, gR_Y8, gR_Y9, gR_Y10, gI_Y11, gI_Y12, gR_Y13, gR_Y14, gR_Y15, gR_Y16, gR_Y17, gR_Y18, gI_Y19, gI_Y20, gI_Y21, gI_Y22, gI_Y23, gR_Y24, gR_Y25, gR_Y26, gR_Y27, gR_Y28, gI_Y29, gI_Y30, gI_Y31, gR_Y33, gR_Y34, gI_Y35, gR_Y36, cV_Y, bk_some, bind_some', zb_0, zb_1, zb_or, cc_or, kset_1, kset_21, kint_1, kint_21, kint_22, putY_moved]
      rw [s3']
      rfl
theorem go_1 (i : Nat) (κ : aK) : (goF i κ).1 = κ.1 := by
  unfold goF goTowK
  repeat' split
  all_goals rfl
theorem opt_1 (κ : aK) (o : Option Nat) (x : Int32) : (optS κ o x).1 = κ.1 := by cases o <;> rfl
theorem itr_1 {F : Nat → aK → aK} (h : ∀ i κ, (F i κ).1 = κ.1) : ∀ n a κ, (itr F a n κ).1 = κ.1
  | 0, _, _ => rfl
  | n + 1, a, κ => (itr_1 h n (a + 1) (F a κ)).trans (h a κ)
theorem give_1 (P : Nat → Bool) (x : Int32) (i : Nat) (κ : aK) : (giveF P x i κ).1 = κ.1 := by
  unfold giveF
  split <;> rfl
theorem speak_1 (κ : aK) (p : Nat) : (speakK κ p).1 = κ.1 := by
  unfold speakK
  repeat' split
  · rfl
  · exact opt_1 _ _ _
  · exact opt_1 _ _ _
  · exact itr_1 (give_1 _ _) 9 0 κ
  · rfl
theorem feed_1 (κ : aK) (i : Nat) (m : Int32) : (feedK κ i m).1 = κ.1 := by
  unfold feedK starveK
  dsimp only
  repeat' split
  all_goals rfl
theorem fe_1 (m : Int32) (i : Nat) (κ : aK) : (feF m i κ).1 = κ.1 := by
  unfold feF
  split
  · exact feed_1 _ _ _
  · rfl
theorem sp_1 (p : Nat) (κ : aK) : (spF p κ).1 = κ.1 := speak_1 κ p
theorem pass_1 (m : Int32) (κ : aK) : (passK m κ).1 = κ.1 := by
  unfold passK
  rw [itr_1 (fe_1 m), itr_1 sp_1, itr_1 go_1]
  rfl
theorem go_out {κ : aK} (hW : WF κ) {i : Nat} (h1 : κ.1 ≤ i) (h2 : i < 9) : goF i κ = κ := by
  unfold goF
  rw [(hW.2.2.2.2 i h1 h2).2]
  rfl
theorem fe_out {κ : aK} (hW : WF κ) {i : Nat} (m : Int32) (h1 : κ.1 ≤ i) (h2 : i < 9) : feF m i κ = κ := by
  unfold feF
  rw [(hW.2.2.2.2 i h1 h2).2]
  rfl
theorem m_dayOn3 {m : Nat} (w : aW) (y : aY) (hs : y.1 0 = nI m) (hm : m ≤ 2) : ∀ κ, WF κ → loop2 (c_X4_dayOn_62 50) a_fuel (nI 0) (putY w κ y) = some ((), putY w (itr (feF (nI m)) 0 9 κ) (yint y 0 0)) := fun κ hκ => by
  rw [itr_many (F := feF (nI m)) hκ.1 κ (fun i h1 h2 => fe_out (itr_inv (I := WF) κ.1 0 κ hκ (fun i _ _ hi h => fe_WF h (by have := hκ.1; omega) hm)) _ (by rw [itr_1 (fe_1 _)]; exact h1) h2)]
  exact for2 (fun κ : aK => putY w κ y) (c_X4_dayOn_62 50) κ.1 (feF (nI m)) (fun κ => some ((), putY w κ (yint y 0 0))) (fun _ κ' => WF κ' ∧ κ'.1 = κ.1)
    (fun k i κ' hi hκ' => by
      have hi' : i < κ'.1 := by rw [hκ'.2]; exact hi
      have h9 := hκ'.1.1
      simp only [c_X4_dayOn_62, gI_Y0, gR_Y1, gR_Y2, gR_Y3, gR_Y4, gR_Y5, gI_Y6, gR_Y7, gR_Y8, gR_Y9, gR_Y10, gI_Y11, gI_Y12, gR_Y13, gR_Y14, gR_Y15, gR_Y16, gR_Y17, gR_Y18, gI_Y19, gI_Y20, gI_Y21, gI_Y22, gI_Y23, gR_Y24, gR_Y25, gR_Y26, gR_Y27, gR_Y28, gI_Y29, gI_Y30, gI_Y31, gR_Y33, gR_Y34, gI_Y35, gR_Y36, cV_Y, bk_some, bind_some', zb_0, zb_1, zb_or, cc_or, kset_1, kset_21, kint_1, kint_21, kint_22, putY_moved, le_nIb (show κ'.1 < 2 ^ 31 by omega) (show i < 2 ^ 31 by omega) hi', p_hasBit, m_isFed w y hκ'.1 hi' hs hm, if_true, if_false, not_true_eq_false, not_false_eq_true, Bool.false_eq_true, Bool.true_eq_false, reduceIte, ite_true, ite_false, nI_1]
      unfold feF
      by_cases h : bitB (κ'.2.1 1) (nI i) = true <;> simp [h])
    (fun i κ' hi hκ' => ⟨fe_WF hκ'.1 (by have := hκ.1; omega) hm, (fe_1 _ _ _).trans hκ'.2⟩) (fun k κ' hκ' => by
      simp only [c_X4_dayOn_62, gI_Y0, gR_Y1, gR_Y2, gR_Y3, gR_Y4, gR_Y5, gI_Y6, gR_Y7, gR_Y8, gR_Y9, gR_Y10, gI_Y11, gI_Y12, gR_Y13, gR_Y14, gR_Y15, gR_Y16, gR_Y17, gR_Y18, gI_Y19, gI_Y20, gI_Y21, gI_Y22, gI_Y23, gR_Y24, gR_Y25, gR_Y26, gR_Y27, gR_Y28, gI_Y29, gI_Y30, gI_Y31, gR_Y33, gR_Y34, gI_Y35, gR_Y36, cV_Y, bk_some, bind_some', zb_0, zb_1, zb_or, cc_or, kset_1, kset_21, kint_1, kint_21, kint_22, putY_moved, hκ'.2, Int32.le_refl, sF_Y12, if_true, if_false, not_true_eq_false, not_false_eq_true, Bool.false_eq_true, Bool.true_eq_false, reduceIte, ite_true, ite_false]) κ.1 0 κ a_fuel (by omega) (by have := hκ.1; show κ.1 < 1000; omega) ⟨hκ, rfl⟩
theorem m_dayOn2 {m : Nat} (w : aW) (y : aY) (hs : y.1 0 = nI m) (hm : m ≤ 2) : ∀ κ, WF κ → loop2 (c_X4_dayOn_44 50) a_fuel (nI 0) (putY w κ y) = some ((), putY w (itr (feF (nI m)) 0 9 (itr spF 0 5 κ)) (yint y 0 0)) := fun κ hκ =>
  for2 (fun κ : aK => putY w κ y) (c_X4_dayOn_44 50) 5 spF (fun κ => some ((), putY w (itr (feF (nI m)) 0 9 κ) (yint y 0 0))) (fun _ κ => WF κ)
    (fun k i κ hi hκ => by
      simp only [c_X4_dayOn_44, le_5 hi, gI_Y0, gR_Y1, gR_Y2, gR_Y3, gR_Y4, gR_Y5, gI_Y6, gR_Y7, gR_Y8, gR_Y9, gR_Y10, gI_Y11, gI_Y12, gR_Y13, gR_Y14, gR_Y15, gR_Y16, gR_Y17, gR_Y18, gI_Y19, gI_Y20, gI_Y21, gI_Y22, gI_Y23, gR_Y24, gR_Y25, gR_Y26, gR_Y27, gR_Y28, gI_Y29, gI_Y30, gI_Y31, gR_Y33, gR_Y34, gI_Y35, gR_Y36, cV_Y, bk_some, bind_some', zb_0, zb_1, zb_or, cc_or, kset_1, kset_21, kint_1, kint_21, kint_22, putY_moved, m_speaks w y hκ hi, if_true, if_false, not_true_eq_false, not_false_eq_true, Bool.false_eq_true, Bool.true_eq_false, reduceIte, ite_true, ite_false, nI_1]
      rfl)
    (fun i κ hi hκ => speak_WF hκ hi) (fun k κ hκ => by
      have := m_dayOn3 w y hs hm κ hκ
      simp only [c_X4_dayOn_44]
      exact this) 5 0 κ a_fuel rfl (by decide) hκ
theorem m_dayOn1 {m : Nat} (w : aW) (y : aY) (hs : y.1 0 = nI m) (hm : m ≤ 2) {κ0 : aK} (h0' : WF κ0) : loop2 (c_X4_dayOn_12 50) a_fuel (nI 0) (putY w κ0 y) = some ((), putY w (itr (feF (nI m)) 0 9 (itr spF 0 5 (itr goF 0 9 κ0))) (yint y 0 0)) := by
  rw [itr_many (F := goF) h0'.1 κ0 (fun i h1 h2 => go_out (itr_inv (I := WF) κ0.1 0 κ0 h0' (fun i _ _ hi h => go_WF h (by have := h0'.1; omega))) (by rw [itr_1 go_1]; exact h1) h2)]
  exact for2 (fun κ : aK => putY w κ y) (c_X4_dayOn_12 50) κ0.1 goF (fun κ => some ((), putY w (itr (feF (nI m)) 0 9 (itr spF 0 5 κ)) (yint y 0 0))) (fun _ κ' => WF κ' ∧ κ'.1 = κ0.1)
    (fun k i κ' hi hκ' => by
      have hi' : i < κ'.1 := by rw [hκ'.2]; exact hi
      have h9 := hκ'.1.1
      simp only [c_X4_dayOn_12, gI_Y0, gR_Y1, gR_Y2, gR_Y3, gR_Y4, gR_Y5, gI_Y6, gR_Y7, gR_Y8, gR_Y9, gR_Y10, gI_Y11, gI_Y12, gR_Y13, gR_Y14, gR_Y15, gR_Y16, gR_Y17, gR_Y18, gI_Y19, gI_Y20, gI_Y21, gI_Y22, gI_Y23, gR_Y24, gR_Y25, gR_Y26, gR_Y27, gR_Y28, gI_Y29, gI_Y30, gI_Y31, gR_Y33, gR_Y34, gI_Y35, gR_Y36, cV_Y, bk_some, bind_some', zb_0, zb_1, zb_or, cc_or, kset_1, kset_21, kint_1, kint_21, kint_22, putY_moved, le_nIb (show κ'.1 < 2 ^ 31 by omega) (show i < 2 ^ 31 by omega) hi', p_hasBit, m_goes w y hκ'.1 hi', if_true, if_false, not_true_eq_false, not_false_eq_true, Bool.false_eq_true, Bool.true_eq_false, reduceIte, ite_true, ite_false, nI_1]
      unfold goF
      by_cases h : bitB (κ'.2.1 1) (nI i) = true <;> simp [h])
    (fun i κ' hi hκ' => ⟨go_WF hκ'.1 (by have := h0'.1; omega), (go_1 _ _).trans hκ'.2⟩) (fun k κ' hκ' => by
      have := m_dayOn2 w y hs hm κ' hκ'.1
      simp only [c_X4_dayOn_12, gI_Y0, gR_Y1, gR_Y2, gR_Y3, gR_Y4, gR_Y5, gI_Y6, gR_Y7, gR_Y8, gR_Y9, gR_Y10, gI_Y11, gI_Y12, gR_Y13, gR_Y14, gR_Y15, gR_Y16, gR_Y17, gR_Y18, gI_Y19, gI_Y20, gI_Y21, gI_Y22, gI_Y23, gR_Y24, gR_Y25, gR_Y26, gR_Y27, gR_Y28, gI_Y29, gI_Y30, gI_Y31, gR_Y33, gR_Y34, gI_Y35, gR_Y36, cV_Y, bk_some, bind_some', zb_0, zb_1, zb_or, cc_or, kset_1, kset_21, kint_1, kint_21, kint_22, putY_moved, hκ'.2, Int32.le_refl, if_true, if_false, not_true_eq_false, not_false_eq_true, Bool.false_eq_true, Bool.true_eq_false, reduceIte, ite_true, ite_false]
      exact this) κ0.1 0 κ0 a_fuel (by omega) (by have := h0'.1; show κ0.1 < 1000; omega) ⟨h0', rfl⟩
theorem m_dayOn (w : aW) (y : aY) {κ : aK} (hW : WF κ) {m : Nat} (hs : y.1 0 = nI m) (hm : m ≤ 2) : f_X4_dayOn 50 (putY w κ y) = some ((), putY w (passK (nI m) κ) (yint y 0 0)) := by
  unfold f_X4_dayOn
  rw [gI_Y11, bind_some', sF_Y11, bind_some']
  have h := m_dayOn1 w y hs hm (pass_WF0 hW)
  rw [putY_moved] at h
  exact h
/-- with no snow -/
theorem yint_self (y : aY) (a : Nat) (x : Int32) (h : y.1 a = x) : yint y a x = y := by
  unfold yint
  have : (fun z => if z = a then x else y.1 z) = y.1 := by
    funext z
    by_cases hz : z = a
    · subst hz; simp [h]
    · simp [hz]
  rw [this]
theorem m_dayOn0 (w : aW) (y : aY) {κ : aK} (hW : WF κ) (hs : y.1 0 = 0) : f_X4_dayOn 50 (putY w κ y) = some ((), putY w (passK 0 κ) y) := by
  have := m_dayOn w y hW (m := 0) hs (by decide)
  rw [yint_self y 0 0 hs] at this
  exact this
theorem m_goDays (w : aW) (y : aY) {κ : aK} (hW : WF κ) (hs : y.1 0 = 0) {n : Nat} (hn : n < 1000) : f_X4_goDays 50 (nI n) (putY w κ y) = some ((), putY w (daysK n κ) y) := by
  unfold f_X4_goDays
  exact for2 (fun κ : aK => putY w κ y) (c_X4_goDays_2 50 (nI n)) n (fun _ κ => passK 0 κ) (fun κ => some ((), putY w κ y)) (fun _ κ => WF κ)
    (fun k i κ hi hκ => by
      simp only [c_X4_goDays_2, le_nI (show n < 2 ^ 31 by omega) (show i < 2 ^ 31 by omega), Nat.not_le.mpr hi, gI_Y0, gR_Y1, gR_Y2, gR_Y3, gR_Y4, gR_Y5, gI_Y6, gR_Y7, gR_Y8, gR_Y9, gR_Y10, gI_Y11, gI_Y12, gR_Y13, gR_Y14, gR_Y15, gR_Y16, gR_Y17, gR_Y18, gI_Y19, gI_Y20, gI_Y21, gI_Y22, gI_Y23, gR_Y24, gR_Y25, gR_Y26, gR_Y27, gR_Y28, gI_Y29, gI_Y30, gI_Y31, gR_Y33, gR_Y34, gI_Y35, gR_Y36, cV_Y, bk_some, bind_some', zb_0, zb_1, zb_or, cc_or, kset_1, kset_21, kint_1, kint_21, kint_22, putY_moved, m_dayOn0 w y hκ hs, if_true, if_false, not_true_eq_false, not_false_eq_true, Bool.false_eq_true, Bool.true_eq_false, reduceIte, ite_true, ite_false, nI_1])
    (fun i κ hi hκ => pass_WF hκ (m := 0) (by decide)) (fun k κ _ => by simp only [c_X4_goDays_2, Int32.le_refl, if_true, if_false, not_true_eq_false, not_false_eq_true, Bool.false_eq_true, Bool.true_eq_false, reduceIte, ite_true, ite_false]) n 0 κ a_fuel (by omega) hn hW
