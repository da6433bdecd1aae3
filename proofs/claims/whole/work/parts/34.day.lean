/-! PURE: a day keeps what holds; days -/
theorem nI_lit (n : Nat) : nI n = Int32.ofNat n := rfl
theorem minI_nI {a c : Nat} (ha : a < 2 ^ 31) (hc : c < 2 ^ 31) : minI (nI a) (nI c) = nI (min a c) := by
  unfold minI
  by_cases h : a < c
  · rw [if_pos ((nI_ltI ha hc).mpr h), Nat.min_eq_left (by omega)]
  · rw [if_neg (fun z => h ((nI_ltI ha hc).mp z)), Nat.min_eq_right (by omega)]
theorem workI_rng {s f : Nat} (hs : s ≤ 7) (hf : f ≤ 9) : ∃ x, x ≤ 20 ∧ workI (nI s) (nI f) = nI x := by
  have key : ∀ s, s < 8 → ∀ f, f < 10 → ∃ x, x < 21 ∧ workI (nI s) (nI f) = nI x := by decide +kernel
  obtain ⟨x, h1, h2⟩ := key s (by omega) f (by omega)
  exact ⟨x, by omega, h2⟩
theorem needI_rng {s f : Nat} (hs : s ≤ 7) (hf : f ≤ 9) : ∃ x, x ≤ 11 ∧ needI (nI s) (nI f) = nI x := by
  have key : ∀ s, s < 8 → ∀ f, f < 10 → ∃ x, x < 12 ∧ needI (nI s) (nI f) = nI x := by decide +kernel
  obtain ⟨x, h1, h2⟩ := key s (by omega) f (by omega)
  exact ⟨x, by omega, h2⟩
theorem and_lt {a : Nat} (ha : a < 512) (y : Int32) : ∃ z, z < 512 ∧ nI a &&& y = nI z := by
  refine b_lt (fun i h1 h2 => ?_)
  rw [b_and, b_nI ha h1]
  rfl
theorem starve_WF {κ : aK} (hW : WF κ) {i p : Nat} (hi : i < 9) (hp : p < 5) : WF (starveK κ i p) := by
  unfold starveK
  obtain ⟨h, hh, eh⟩ := (hW.2.1 i hi).2.2.2.1
  obtain ⟨g, hg, eg⟩ := (hW.2.2.1 p hp).2.2.2
  have e1 : minI (κ.2.2 3 i + 2) 9 = nI (min (h + 2) 9) := by
    rw [eh, show (2 : Int32) = nI 2 from rfl, nI_add, show (9 : Int32) = nI 9 from rfl, minI_nI (by omega) (by omega)]
  have e2 : minI (κ.2.2 8 p + 1) 99 = nI (min (g + 1) 99) := by
    rw [eg, nI_1, show (99 : Int32) = nI 99 from rfl, minI_nI (by omega) (by omega)]
  rw [e1, e2]
  have hW1 : WF (kset κ 3 i (nI (min (h + 2) 9))) := hW.hunger (by omega)
  dsimp only
  by_cases h9 : nI (min (h + 2) 9) = 9
  · rw [if_neg (by simpa using h9)]
    refine WF.grief ?_ (by omega)
    have hW2 : WF (kint (kset (kset κ 3 i (nI (min (h + 2) 9))) 4 i (-4)) 1 (κ.2.1 1 &&& (oneI i ^^^ -1))) := by
      have hW3 := hW1.caller (i := i) (x := -4) (Or.inl rfl)
      obtain ⟨a1, a2, a3, ⟨a, ha, ea⟩, a5⟩ := hW3
      have ea' : κ.2.1 1 = nI a := ea
      refine ⟨a1, a2, a3, ?_, fun z h6 h7 => ⟨(a5 z h6 h7).1, ?_⟩⟩
      · rw [kint_21, if_pos rfl, ea']
        exact and_lt ha _
      · rw [kint_21, if_pos rfl, bit_and _ _ (by omega)]
        have : bitB (κ.2.1 1) (nI z) = false := (a5 z h6 h7).2
        rw [this]
        rfl
    exact hW2
  · rw [if_pos h9]
    exact hW1
theorem feed_WF {κ : aK} (hW : WF κ) {i : Nat} (hi : i < 9) {m : Nat} (hm : m ≤ 2) : WF (feedK κ i (nI m)) := by
  unfold feedK
  obtain ⟨⟨s, hs, es⟩, ⟨f, hf, ef⟩, -, ⟨h, hh, eh⟩, hc⟩ := hW.2.1 i hi
  split
  · rw [eh, nI_1, show (9 : Int32) = nI 9 from rfl, minI_nI (by omega) (by omega)]
    exact hW.hunger (by omega)
  · next hne =>
    obtain ⟨p, hp, ep⟩ := hc.resolve_left hne
    obtain ⟨q, hq, eq⟩ := (hW.2.2.1 p hp).1
    obtain ⟨n, hn, en⟩ := needI_rng hs hf
    obtain ⟨v, hv, ev⟩ := workI_rng hs hf
    dsimp only
    rw [ep, nI_clamp (by omega), eq, es, ef, en, ev, nI_add]
    split
    · exact starve_WF hW hi hp
    · next hlt =>
      rw [nI_ltI (by omega) (by omega)] at hlt
      rw [pk_sub (by omega), nI_add, show (999 : Int32) = nI 999 from rfl, minI_nI (by omega) (by omega)]
      exact (hW.purse (by omega)).hunger (x := 0) (by omega)
def goF (i : Nat) (κ : aK) : aK := if bitB (κ.2.1 1) (nI i) = true then goTowK κ i (wantsK κ i (κ.2.1 0)) else κ
def spF (p : Nat) (κ : aK) : aK := speakK κ p
def feF (more : Int32) (i : Nat) (κ : aK) : aK := if bitB (κ.2.1 1) (nI i) = true then feedK κ i more else κ
def passK (more : Int32) (κ : aK) : aK := itr (feF more) 0 9 (itr spF 0 5 (itr goF 0 9 (kint (kint κ 0 (κ.2.1 0 + 1)) 2 0)))
theorem go_WF {κ : aK} (hW : WF κ) {i : Nat} (hi : i < 9) : WF (goF i κ) := by
  unfold goF
  split
  · exact goTow_WF hW hi (wants_rng hW hi _)
  · exact hW
theorem fe_WF {κ : aK} (hW : WF κ) {i m : Nat} (hi : i < 9) (hm : m ≤ 2) : WF (feF (nI m) i κ) := by
  unfold feF
  split
  · exact feed_WF hW hi hm
  · exact hW
theorem pass_WF0 {κ : aK} (hW : WF κ) : WF (kint (kint κ 0 (κ.2.1 0 + 1)) 2 0) := (hW.int (by decide) _).int (by decide) _
theorem pass_WF1 {κ : aK} (hW : WF κ) : WF (itr goF 0 9 κ) := itr_inv 9 0 κ hW (fun i _ _ hi h => go_WF h (by omega))
theorem pass_WF2 {κ : aK} (hW : WF κ) : WF (itr spF 0 5 κ) := itr_inv 5 0 κ hW (fun i _ _ hi h => speak_WF h (by omega))
theorem pass_WF3 {κ : aK} (hW : WF κ) {m : Nat} (hm : m ≤ 2) : WF (itr (feF (nI m)) 0 9 κ) := itr_inv 9 0 κ hW (fun i _ _ hi h => fe_WF h (by omega) hm)
theorem pass_WF {κ : aK} (hW : WF κ) {m : Nat} (hm : m ≤ 2) : WF (passK (nI m) κ) := pass_WF3 (pass_WF2 (pass_WF1 (pass_WF0 hW))) hm
theorem p_passDay {w : aW} {j : Nat} (hj : j + 9 < 75) {κ : aK} (hW : WF κ) {m : Nat} (hm : m ≤ 2) : f_X0_passDay j (nI m) (putM w j κ) = some ((), putM w j (passK (nI m) κ)) := by
  unfold f_X0_passDay passK
  simp only [gI_M0 hj, gI_M1 hj, gI_M2 hj, gI_M3 hj, gR_M4 hj, gR_M5 hj, gR_M6 hj, gR_M7 hj, gR_M8 hj, gR_M9 hj, gR_M10 hj, gR_M11 hj, gR_M12 hj, cV_M hj, bk_some, bind_some', zb_0, zb_1, zb_or, cc_or, kset_1, kset_21, kint_1, kint_21, kint_22, sF_M0 hj, sF_M3 hj, if_true, if_false, not_true_eq_false, not_false_eq_true, Bool.false_eq_true, Bool.true_eq_false, reduceIte, ite_true, ite_false]
  have h0 := pass_WF0 hW
  generalize kint (kint κ 0 (κ.2.1 0 + 1)) 2 0 = κ0 at h0 ⊢
  have l3 : ∀ κ, WF κ → loop2 (c_X0_passDay_71 j (nI m)) a_fuel (nI 0) (putM w j κ) = some ((), putM w j (itr (feF (nI m)) 0 9 κ)) := fun κ hκ =>
    for2 (fun κ : aK => putM w j κ) (c_X0_passDay_71 j (nI m)) 9 (feF (nI m)) (fun κ => some ((), putM w j κ)) (fun _ κ => WF κ)
      (fun k i κ hi hκ => by
        simp only [c_X0_passDay_71, le_9 hi, gI_M0 hj, gI_M1 hj, gI_M2 hj, gI_M3 hj, gR_M4 hj, gR_M5 hj, gR_M6 hj, gR_M7 hj, gR_M8 hj, gR_M9 hj, gR_M10 hj, gR_M11 hj, gR_M12 hj, cV_M hj, bk_some, bind_some', zb_0, zb_1, zb_or, cc_or, kset_1, kset_21, kint_1, kint_21, kint_22, p_isAlive hj, p_feed hj hκ hi, if_true, if_false, not_true_eq_false, not_false_eq_true, Bool.false_eq_true, Bool.true_eq_false, reduceIte, ite_true, ite_false, nI_1]
        unfold feF
        by_cases h : bitB (κ.2.1 1) (nI i) = true <;> simp [h])
      (fun i κ hi hκ => fe_WF hκ hi hm) (fun k κ _ => by simp only [c_X0_passDay_71]; rfl) 9 0 κ a_fuel rfl (by decide) hκ
  have l2 : ∀ κ, WF κ → loop2 (c_X0_passDay_53 j (nI m)) a_fuel (nI 0) (putM w j κ) = some ((), putM w j (itr (feF (nI m)) 0 9 (itr spF 0 5 κ))) := fun κ hκ =>
    for2 (fun κ : aK => putM w j κ) (c_X0_passDay_53 j (nI m)) 5 spF (fun κ => some ((), putM w j (itr (feF (nI m)) 0 9 κ))) (fun _ κ => WF κ)
      (fun k i κ hi hκ => by
        simp only [c_X0_passDay_53, le_5 hi, gI_M0 hj, gI_M1 hj, gI_M2 hj, gI_M3 hj, gR_M4 hj, gR_M5 hj, gR_M6 hj, gR_M7 hj, gR_M8 hj, gR_M9 hj, gR_M10 hj, gR_M11 hj, gR_M12 hj, cV_M hj, bk_some, bind_some', zb_0, zb_1, zb_or, cc_or, kset_1, kset_21, kint_1, kint_21, kint_22, p_speak hj κ hi, if_true, if_false, not_true_eq_false, not_false_eq_true, Bool.false_eq_true, Bool.true_eq_false, reduceIte, ite_true, ite_false, nI_1]
        rfl)
      (fun i κ hi hκ => speak_WF hκ hi) (fun k κ hκ => by
        have := l3 κ hκ
        simp only [c_X0_passDay_53]
        exact this) 5 0 κ a_fuel rfl (by decide) hκ
  exact for2 (fun κ : aK => putM w j κ) (c_X0_passDay_17 j (nI m)) 9 goF (fun κ => some ((), putM w j (itr (feF (nI m)) 0 9 (itr spF 0 5 κ)))) (fun _ κ => WF κ)
      (fun k i κ hi hκ => by
        simp only [c_X0_passDay_17, le_9 hi, gI_M0 hj, gI_M1 hj, gI_M2 hj, gI_M3 hj, gR_M4 hj, gR_M5 hj, gR_M6 hj, gR_M7 hj, gR_M8 hj, gR_M9 hj, gR_M10 hj, gR_M11 hj, gR_M12 hj, cV_M hj, bk_some, bind_some', zb_0, zb_1, zb_or, cc_or, kset_1, kset_21, kint_1, kint_21, kint_22, p_isAlive hj, p_wantedPlace hj hκ hi, p_goTowards hj κ hi, if_true, if_false, not_true_eq_false, not_false_eq_true, Bool.false_eq_true, Bool.true_eq_false, reduceIte, ite_true, ite_false, nI_1]
        unfold goF
        by_cases h : bitB (κ.2.1 1) (nI i) = true <;> simp [h, p_goTowards hj κ hi, bk_some])
      (fun i κ hi hκ => go_WF hκ hi) (fun k κ hκ => by
        have := l2 κ hκ
        simp only [c_X0_passDay_17]
        exact this) 9 0 κ0 a_fuel rfl (by decide) h0
/-- n days -/
def daysK (n : Nat) (κ : aK) : aK := itr (fun _ κ => passK 0 κ) 0 n κ
theorem days_WF {κ : aK} (hW : WF κ) (n : Nat) : WF (daysK n κ) := itr_inv n 0 κ hW (fun _ _ _ _ h => pass_WF h (m := 0) (by decide))
theorem p_passDay0 {w : aW} {j : Nat} (hj : j + 9 < 75) {κ : aK} (hW : WF κ) : f_X0_passDay j 0 (putM w j κ) = some ((), putM w j (passK 0 κ)) := p_passDay hj hW (m := 0) (by decide)
theorem le_nI {a b : Nat} (ha : a < 2 ^ 31) (hb : b < 2 ^ 31) : (nI a ≤ nI b) = (a ≤ b) := propext (nI_leI ha hb)
theorem p_passDays {w : aW} {j : Nat} (hj : j + 9 < 75) {κ : aK} (hW : WF κ) {n : Nat} (hn : n < 1000) : f_X0_passDays j (nI n) (putM w j κ) = some ((), putM w j (daysK n κ)) := by
  unfold f_X0_passDays
  exact for2 (fun κ : aK => putM w j κ) (c_X0_passDays_2 j (nI n)) n (fun _ κ => passK 0 κ) (fun κ => some ((), putM w j κ)) (fun _ κ => WF κ)
    (fun k i κ hi hκ => by
      simp only [c_X0_passDays_2, le_nI (show n < 2 ^ 31 by omega) (show i < 2 ^ 31 by omega), Nat.not_le.mpr hi, gI_M0 hj, gI_M1 hj, gI_M2 hj, gI_M3 hj, gR_M4 hj, gR_M5 hj, gR_M6 hj, gR_M7 hj, gR_M8 hj, gR_M9 hj, gR_M10 hj, gR_M11 hj, gR_M12 hj, cV_M hj, bk_some, bind_some', zb_0, zb_1, zb_or, cc_or, kset_1, kset_21, kint_1, kint_21, kint_22, p_passDay0 hj hκ, if_true, if_false, not_true_eq_false, not_false_eq_true, Bool.false_eq_true, Bool.true_eq_false, reduceIte, ite_true, ite_false, nI_1])
    (fun i κ hi hκ => pass_WF hκ (m := 0) (by decide)) (fun k κ _ => by simp only [c_X0_passDays_2, Int32.le_refl, if_true, if_false, not_true_eq_false, not_false_eq_true, Bool.false_eq_true, Bool.true_eq_false, reduceIte, ite_true, ite_false]) n 0 κ a_fuel (by omega) hn hW
