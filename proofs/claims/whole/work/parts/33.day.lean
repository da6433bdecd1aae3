/-! PURE: where one wants to go, who speaks, who is fed; a day -/
def awayI (feared place : Int32) : Int32 := if place < feared then 0 else 15
theorem p_awayFrom (x y : Int32) (w : aW) : f_X0_awayFrom x y w = some (awayI x y, w) := by
  unfold f_X0_awayFrom awayI
  split <;> rfl
def hisSpot (κ : aK) (b : Nat) : Int32 := κ.2.2 6 (κ.2.2 4 b).toNatClampNeg
def wantsK (κ : aK) (b : Nat) (d : Int32) : Int32 :=
  if κ.2.2 0 b = 1 then (if ¬ d - d / (κ.2.2 1 b + 2) * (κ.2.2 1 b + 2) = 0 then -4 else κ.2.2 6 (nearK κ b))
  else if κ.2.2 0 b = 2 then (if κ.2.2 3 b < κ.2.2 1 b then -4 else κ.2.2 6 (nearK κ b))
  else if κ.2.2 0 b = 3 then κ.2.2 6 (richK κ)
  else if κ.2.2 0 b = 4 then (if κ.2.2 4 b = -4 then κ.2.2 6 (nearK κ b) else hisSpot κ b)
  else if κ.2.2 0 b = 5 then awayI (κ.2.2 6 (nearK κ b)) (κ.2.2 2 b)
  else if κ.2.2 0 b = 6 then (if ¬ κ.2.2 3 b - κ.2.2 3 b / 2 * 2 = 0 then -4 else κ.2.2 6 (richK κ))
  else if κ.2.2 0 b = 7 then (if κ.2.2 4 b = -4 then awayI (κ.2.2 6 (nearK κ b)) (κ.2.2 2 b) else hisSpot κ b)
  else κ.2.2 6 (nearK κ b)
theorem inR_m4 : inR (-4) 0 4 = false := by decide
theorem inR_p {p : Nat} (hp : p < 5) : inR (nI p) 0 4 = true := inR_of (n := 4) (by omega) (by decide)
theorem nI_ne4 {p : Nat} (hp : p < 2 ^ 31) : ¬ nI p = -4 := fun h => by
  have h2 : (nI p).toInt = (-4 : Int32).toInt := by rw [h]
  rw [nI_toInt hp] at h2
  have : (-4 : Int32).toInt = -4 := rfl
  omega
set_option maxHeartbeats 2000000 in
theorem p_wantedPlace {w : aW} {j : Nat} (hj : j + 9 < 75) {κ : aK} (hW : WF κ) {b : Nat} (hb : b < 9) (d : Int32) : f_X0_wantedPlace j (nI b) d (putM w j κ) = some (if bitB (κ.2.1 1) (nI b) = true then wantsK κ b d else -4, putM w j κ) := by
  unfold f_X0_wantedPlace
  by_cases ha : bitB (κ.2.1 1) (nI b) = true
  case neg => simp only [gI_M0 hj, gI_M1 hj, gI_M2 hj, gI_M3 hj, gR_M4 hj, gR_M5 hj, gR_M6 hj, gR_M7 hj, gR_M8 hj, gR_M9 hj, gR_M10 hj, gR_M11 hj, gR_M12 hj, cV_M hj, bk_some, bind_some', zb_0, zb_1, zb_or, cc_or, kset_1, kset_21, kint_1, kint_21, kint_22, p_isAlive hj, ha, if_true, if_false, not_true_eq_false, not_false_eq_true, Bool.false_eq_true, Bool.true_eq_false, reduceIte, ite_true, ite_false]
  obtain ⟨-, ⟨f, hf, ef⟩, -, -, hc⟩ := hW.2.1 b hb
  have hnl := nearK_lt κ b
  have hrl := (p_richest hj (w := w) κ).2
  have h1 : ¬ κ.2.2 1 b + 2 ≤ 0 := by
    rw [ef, show (2 : Int32) = nI 2 from rfl, nI_add]
    exact nI_nle (by omega) (by omega)
  have h2 : ¬ κ.2.2 1 b + 2 = 0 := by
    rw [ef, show (2 : Int32) = nI 2 from rfl, nI_add]
    exact nI_ne0 (by omega) (by omega)
  simp only [gI_M0 hj, gI_M1 hj, gI_M2 hj, gI_M3 hj, gR_M4 hj, gR_M5 hj, gR_M6 hj, gR_M7 hj, gR_M8 hj, gR_M9 hj, gR_M10 hj, gR_M11 hj, gR_M12 hj, cV_M hj, bk_some, bind_some', zb_0, zb_1, zb_or, cc_or, kset_1, kset_21, kint_1, kint_21, kint_22, p_isAlive hj, ha, gA_M0 hj κ hb, gA_M1 hj κ hb, gA_M2 hj κ hb, gA_M3 hj κ hb, gA_M4 hj κ hb, p_nearestTo hj κ hb, (p_richest hj κ).1, gA_M6 hj κ hnl, gA_M6 hj κ hrl, p_awayFrom, p_isPerson, h1, h2, if_true, if_false, not_true_eq_false, not_false_eq_true, Bool.false_eq_true, Bool.true_eq_false, reduceIte, ite_true, ite_false]
  rcases hc with hc | ⟨p, hp, hc⟩
  · simp only [hc, inR_m4, wantsK, if_true, if_false, not_true_eq_false, not_false_eq_true, Bool.false_eq_true, Bool.true_eq_false, reduceIte, ite_true, ite_false]
    repeat' split
    all_goals rfl
  · have h3 : κ.2.2 6 p = hisSpot κ b := by unfold hisSpot; rw [hc, nI_clamp (by omega)]
    simp only [hc, inR_p hp, gA_M6 hj κ hp, nI_ne4 (show p < 2 ^ 31 by omega), wantsK, h3, if_true, if_false, not_true_eq_false, not_false_eq_true, Bool.false_eq_true, Bool.true_eq_false, reduceIte, ite_true, ite_false]
    repeat' split
    all_goals rfl
theorem wants_rng {κ : aK} (hW : WF κ) {b : Nat} (hb : b < 9) (d : Int32) : wantsK κ b d = -4 ∨ ∃ x, x ≤ 15 ∧ wantsK κ b d = nI x := by
  have hn : ∃ x, x ≤ 15 ∧ κ.2.2 6 (nearK κ b) = nI x := (hW.2.2.1 _ (nearK_lt κ b)).2.1
  have hr : ∃ x, x ≤ 15 ∧ κ.2.2 6 (richK κ) = nI x := (hW.2.2.1 _ (p_richest (w := fun _ => .inr (0, [])) (j := 0) (by decide) κ).2).2.1
  have ha : ∀ x y, ∃ z, z ≤ 15 ∧ awayI x y = nI z := fun x y => by
    unfold awayI
    split
    · exact ⟨0, by omega, rfl⟩
    · exact ⟨15, by omega, rfl⟩
  have hh : κ.2.2 4 b = -4 ∨ ∃ x, x ≤ 15 ∧ hisSpot κ b = nI x := by
    rcases (hW.2.1 b hb).2.2.2.2 with h | ⟨p, hp, h⟩
    · exact Or.inl h
    · right
      unfold hisSpot
      rw [h, nI_clamp (by omega)]
      exact (hW.2.2.1 p hp).2.1
  unfold wantsK
  repeat' split
  all_goals first | exact Or.inl rfl | exact Or.inr hn | exact Or.inr hr | exact Or.inr (ha _ _) | (rcases hh with h | h <;> first | contradiction | exact Or.inr h)
def goTowK (κ : aK) (b : Nat) (to : Int32) : aK := if to = -4 then κ else if to = κ.2.2 2 b then κ else kint (kset κ 2 b (κ.2.2 2 b + (if to ≤ κ.2.2 2 b then -1 else 1))) 2 (κ.2.1 2 ||| oneI b)
theorem p_goTowards {w : aW} {j : Nat} (hj : j + 9 < 75) (κ : aK) {b : Nat} (hb : b < 9) (to : Int32) : f_X0_goTowards j (nI b) to (putM w j κ) = some ((), putM w j (goTowK κ b to)) := by
  unfold f_X0_goTowards goTowK
  simp only [gI_M0 hj, gI_M1 hj, gI_M2 hj, gI_M3 hj, gR_M4 hj, gR_M5 hj, gR_M6 hj, gR_M7 hj, gR_M8 hj, gR_M9 hj, gR_M10 hj, gR_M11 hj, gR_M12 hj, cV_M hj, bk_some, bind_some', zb_0, zb_1, zb_or, cc_or, kset_1, kset_21, kint_1, kint_21, kint_22, c_X0_goTowards_39, gA_M2 hj κ hb, sA_M2 hj κ hb, sF_M3 hj, if_true, if_false, not_true_eq_false, not_false_eq_true, Bool.false_eq_true, Bool.true_eq_false, reduceIte, ite_true, ite_false]
  by_cases h1 : to = -4
  · simp [h1]
  · by_cases h2 : to = κ.2.2 2 b
    · simp [h2]
    · by_cases h3 : to ≤ κ.2.2 2 b
      · simp only [h1, h2, h3, if_true, if_false, not_true_eq_false, not_false_eq_true, Bool.false_eq_true, Bool.true_eq_false, reduceIte, ite_true, ite_false]; rfl
      · simp only [h1, h2, h3, if_true, if_false, not_true_eq_false, not_false_eq_true, Bool.false_eq_true, Bool.true_eq_false, reduceIte, ite_true, ite_false]; rfl
theorem goTow_WF {κ : aK} (hW : WF κ) {b : Nat} (hb : b < 9) {to : Int32} (ht : to = -4 ∨ ∃ x, x ≤ 15 ∧ to = nI x) : WF (goTowK κ b to) := by
  unfold goTowK
  by_cases h1 : to = -4
  · rw [if_pos h1]; exact hW
  · rw [if_neg h1]
    by_cases h2 : to = κ.2.2 2 b
    · rw [if_pos h2]; exact hW
    · rw [if_neg h2]
      obtain ⟨x, hx, ex⟩ := ht.resolve_left h1
      obtain ⟨y, hy, ey⟩ := (hW.2.1 b hb).2.2.1
      have hxy : x ≠ y := fun h => h2 (by rw [ex, ey, h])
      have : ∃ z, z ≤ 15 ∧ κ.2.2 2 b + (if to ≤ κ.2.2 2 b then -1 else 1) = nI z := by
        by_cases h3 : to ≤ κ.2.2 2 b
        · rw [if_pos h3]
          rw [ex, ey, nI_leI (by omega) (by omega)] at h3
          refine ⟨y - 1, by omega, ?_⟩
          rw [ey, show y = (y - 1) + 1 by omega, pk_m1]
          rfl
        · rw [if_neg h3]
          rw [ex, ey, nI_leI (by omega) (by omega)] at h3
          exact ⟨y + 1, by omega, by rw [ey, nI_1]⟩
      obtain ⟨z, hz, ez⟩ := this
      rw [ez]
      exact (hW.place hz).int (by decide) _
def giveK (κ : aK) (p : Nat) (x : Int32) : aK := itr (giveF (metB κ x) (nI p)) 0 9 κ
def speakK (κ : aK) (p : Nat) : aK :=
  if κ.2.2 7 p = 0 then κ
  else if κ.2.2 7 p = 1 then optS κ (fndK (fun i => metB κ (κ.2.2 6 p) i && !decide (κ.2.2 3 i < 5)) 0 9) (nI p)
  else if κ.2.2 7 p = 2 then optS κ (itr (strF κ (metB κ (κ.2.2 6 p))) 0 9 (3, none)).2 (nI p)
  else if κ.2.2 7 p = 3 then giveK κ p (κ.2.2 6 p)
  else κ
theorem str_lt {κ : aK} {Q : Nat → Bool} {i : Nat} (h : (itr (strF κ Q) 0 9 (3, none)).2 = some i) : i < 9 ∧ Q i = true := by
  have := itr_inv (F := strF κ Q) (I := fun s => ∀ i, s.2 = some i → i < 9 ∧ Q i = true) 9 0 (3, none) (fun i h => by cases h) (fun k s _ hk hs i hi => by
    unfold strF at hi
    by_cases hc : (Q k && !decide (workI (κ.2.2 0 k) (κ.2.2 1 k) ≤ s.1)) = true
    · rw [if_pos hc] at hi
      have hki : k = i := by simpa using hi
      subst hki
      rw [Bool.and_eq_true] at hc
      exact ⟨by omega, hc.1⟩
    · rw [if_neg hc] at hi
      exact hs i hi)
  exact this i h
theorem fndK_cong {P Q : Nat → Bool} : ∀ (m a : Nat), (∀ i, a ≤ i → i < a + m → P i = Q i) → fndK P a m = fndK Q a m
  | 0, _, _ => rfl
  | m + 1, a, h => by
    rw [fnd_s, fnd_s, h a (Nat.le_refl _) (by omega), fndK_cong m (a + 1) (fun i h1 h2 => h i (by omega) (by omega))]
theorem bit_met (κ : aK) (x : Int32) {i : Nat} (hi : i < 9) : bitB (mskK (metB κ x) 9) (nI i) = metB κ x i := by
  rw [bit_msk _ (by omega) (by omega)]
  simp [hi]
theorem p_speak {w : aW} {j : Nat} (hj : j + 9 < 75) (κ : aK) {p : Nat} (hp : p < 5) : f_X0_speak j (nI p) (putM w j κ) = some ((), putM w j (speakK κ p)) := by
  unfold f_X0_speak speakK
  have e1 : fndK (fun i => bitB (mskK (metB κ (κ.2.2 6 p)) 9) (nI i) && !decide (κ.2.2 3 i < 5)) 0 9 = fndK (fun i => metB κ (κ.2.2 6 p) i && !decide (κ.2.2 3 i < 5)) 0 9 := fndK_cong 9 0 (fun i _ hi => by show (_ && _) = (_ && _); rw [bit_met κ _ (by omega)])
  have e2 : itr (strF κ (fun i => bitB (mskK (metB κ (κ.2.2 6 p)) 9) (nI i))) 0 9 (3, none) = itr (strF κ (metB κ (κ.2.2 6 p))) 0 9 (3, none) := itr_cong 9 0 _ (fun i s _ hi => by simp only [strF, bit_met κ _ (show i < 9 by omega)])
  have e3 : itr (giveF (fun i => bitB (mskK (metB κ (κ.2.2 6 p)) 9) (nI i)) (nI p)) 0 9 κ = giveK κ p (κ.2.2 6 p) := itr_cong 9 0 _ (fun i s _ hi => by simp only [giveF, bit_met κ _ (show i < 9 by omega)])
  have g1 := give_opt κ (fndK (fun i => metB κ (κ.2.2 6 p) i && !decide (κ.2.2 3 i < 5)) 0 9) (nI p) (fun i h => by have := fnd_lt h; omega)
  have g2 := give_opt κ (itr (strF κ (metB κ (κ.2.2 6 p))) 0 9 (3, none)).2 (nI p) (fun i h => (str_lt h).1)
  simp only [gI_M0 hj, gI_M1 hj, gI_M2 hj, gI_M3 hj, gR_M4 hj, gR_M5 hj, gR_M6 hj, gR_M7 hj, gR_M8 hj, gR_M9 hj, gR_M10 hj, gR_M11 hj, gR_M12 hj, cV_M hj, bk_some, bind_some', zb_0, zb_1, zb_or, cc_or, kset_1, kset_21, kint_1, kint_21, kint_22, gA_M7 hj κ hp, gA_M6 hj κ hp, p_freeOnesAt hj, p_hungryOneOf hj, p_strongOneOf hj, p_giveAll hj, e1, e2, e3, g1, g2, if_true, if_false, not_true_eq_false, not_false_eq_true, Bool.false_eq_true, Bool.true_eq_false, reduceIte, ite_true, ite_false]
  by_cases h0 : κ.2.2 7 p = 0
  · simp [h0]
  · by_cases h1 : κ.2.2 7 p = 1
    · simp [h1]
    · by_cases h2 : κ.2.2 7 p = 2
      · simp [h2]
      · by_cases h3 : κ.2.2 7 p = 3
        · simp [h3]
        · simp [h0, h1, h2, h3]
theorem give_WF {P : Nat → Bool} {p : Nat} (hp : p < 5) {κ : aK} (hW : WF κ) (hP : ∀ i, i < 9 → P i = true → i < κ.1) : WF (itr (giveF P (nI p)) 0 9 κ) := by
  have := itr_inv (F := giveF P (nI p)) (I := fun κ' => WF κ' ∧ κ'.1 = κ.1) 9 0 κ ⟨hW, rfl⟩ (fun i κ' _ hi h => by
    unfold giveF
    by_cases hc : P i = true
    · rw [if_pos hc]
      exact ⟨h.1.caller (Or.inr ⟨by rw [h.2]; exact hP i (by omega) hc, p, hp, rfl⟩), h.2⟩
    · rw [if_neg hc]; exact h)
  exact this.1
theorem met_many {κ : aK} (hW : WF κ) {x : Int32} {i : Nat} (hi : i < 9) (h : metB κ x i = true) : i < κ.1 := by
  unfold metB at h
  rw [Bool.and_eq_true] at h
  exact hW.many hi h.1
theorem optS_WF {κ : aK} (hW : WF κ) {o : Option Nat} {p : Nat} (hp : p < 5) (h : ∀ i, o = some i → i < κ.1) : WF (optS κ o (nI p)) := by
  cases o with
  | none => exact hW
  | some i => exact hW.caller (Or.inr ⟨h i rfl, p, hp, rfl⟩)
theorem speak_WF {κ : aK} (hW : WF κ) {p : Nat} (hp : p < 5) : WF (speakK κ p) := by
  unfold speakK
  repeat' split
  · exact hW
  · refine optS_WF hW hp (fun i h => ?_)
    obtain ⟨-, h1, h2⟩ := fnd_lt h
    rw [Bool.and_eq_true] at h2
    exact met_many hW (by omega) h2.1
  · refine optS_WF hW hp (fun i h => ?_)
    exact met_many hW (str_lt h).1 (str_lt h).2
  · exact give_WF hp hW (fun i hi h => met_many hW hi h)
  · exact hW
def minI (x c : Int32) : Int32 := if x < c then x else c
def starveK (κ : aK) (i p : Nat) : aK :=
  let κ1 := kset κ 3 i (minI (κ.2.2 3 i + 2) 9)
  if ¬ minI (κ.2.2 3 i + 2) 9 = 9 then κ1 else kset (kset (kint κ1 1 (κ.2.1 1 &&& (oneI i ^^^ -1))) 4 i (-4)) 8 p (minI (κ.2.2 8 p + 1) 99)
def feedK (κ : aK) (i : Nat) (more : Int32) : aK :=
  if κ.2.2 4 i = -4 then kset κ 3 i (minI (κ.2.2 3 i + 1) 9)
  else
    let p := (κ.2.2 4 i).toNatClampNeg
    if κ.2.2 5 p < needI (κ.2.2 0 i) (κ.2.2 1 i) + more then starveK κ i p
    else kset (kset κ 5 p (minI (κ.2.2 5 p - (needI (κ.2.2 0 i) (κ.2.2 1 i) + more) + workI (κ.2.2 0 i) (κ.2.2 1 i)) 999)) 3 i 0
theorem p_starve {w : aW} {j : Nat} (hj : j + 9 < 75) (κ : aK) {i p : Nat} (hi : i < 9) (hp : p < 5) : f_X0_starve j (nI i) (nI p) (putM w j κ) = some ((), putM w j (starveK κ i p)) := by
  unfold f_X0_starve starveK
  have e : ∀ (κ : aK), gA (putM w j κ) (j + 4) (nI i) = some (κ.2.2 3 i) := fun κ => gA_M3 hj κ hi
  have e8 : ∀ (κ : aK), gA (putM w j κ) (j + 9) (nI p) = some (κ.2.2 8 p) := fun κ => gA_M8 hj κ hp
  have s3 : ∀ (κ : aK) x, sA (putM w j κ) (j + 4) (nI i) x = some (putM w j (kset κ 3 i x)) := fun κ x => sA_M3 hj κ hi x
  have s4 : ∀ (κ : aK) x, sA (putM w j κ) (j + 5) (nI i) x = some (putM w j (kset κ 4 i x)) := fun κ x => sA_M4 hj κ hi x
  have s8 : ∀ (κ : aK) x, sA (putM w j κ) (j + 9) (nI p) x = some (putM w j (kset κ 8 p x)) := fun κ x => sA_M8 hj κ hp x
  simp only [gI_M0 hj, gI_M1 hj, gI_M2 hj, gI_M3 hj, gR_M4 hj, gR_M5 hj, gR_M6 hj, gR_M7 hj, gR_M8 hj, gR_M9 hj, gR_M10 hj, gR_M11 hj, gR_M12 hj, cV_M hj, bk_some, bind_some', zb_0, zb_1, zb_or, cc_or, kset_1, kset_21, kint_1, kint_21, kint_22, e, e8, s3, s4, s8, sF_M2 hj, kset_22, kset_21, if_true, if_false, not_true_eq_false, not_false_eq_true, Bool.false_eq_true, Bool.true_eq_false, reduceIte, ite_true, ite_false]
  have hd : ∀ x, (if x < (9 : Int32) then x else 9) = minI x 9 := fun _ => rfl
  have hd2 : ∀ x, (if x < (99 : Int32) then x else 99) = minI x 99 := fun _ => rfl
  rw [hd]
  by_cases h : minI (κ.2.2 3 i + 2) 9 = 9
  · simp [h, hd2, oneI]
  · simp [h]
theorem p_feed {w : aW} {j : Nat} (hj : j + 9 < 75) {κ : aK} (hW : WF κ) {i : Nat} (hi : i < 9) (more : Int32) : f_X0_feed j (nI i) more (putM w j κ) = some ((), putM w j (feedK κ i more)) := by
  unfold f_X0_feed feedK
  have e : ∀ (κ : aK), gA (putM w j κ) (j + 4) (nI i) = some (κ.2.2 3 i) := fun κ => gA_M3 hj κ hi
  have s3 : ∀ (κ : aK) x, sA (putM w j κ) (j + 4) (nI i) x = some (putM w j (kset κ 3 i x)) := fun κ x => sA_M3 hj κ hi x
  have hd : ∀ x, (if x < (9 : Int32) then x else 9) = minI x 9 := fun _ => rfl
  have hd2 : ∀ x, (if x < (999 : Int32) then x else 999) = minI x 999 := fun _ => rfl
  rcases (hW.2.1 i hi).2.2.2.2 with hc | ⟨p, hp, hc⟩
  · simp only [gI_M0 hj, gI_M1 hj, gI_M2 hj, gI_M3 hj, gR_M4 hj, gR_M5 hj, gR_M6 hj, gR_M7 hj, gR_M8 hj, gR_M9 hj, gR_M10 hj, gR_M11 hj, gR_M12 hj, cV_M hj, bk_some, bind_some', zb_0, zb_1, zb_or, cc_or, kset_1, kset_21, kint_1, kint_21, kint_22, gA_M4 hj κ hi, hc, p_isPerson, inR_m4, e, s3, hd, if_true, if_false, not_true_eq_false, not_false_eq_true, Bool.false_eq_true, Bool.true_eq_false, reduceIte, ite_true, ite_false]
  · simp only [gI_M0 hj, gI_M1 hj, gI_M2 hj, gI_M3 hj, gR_M4 hj, gR_M5 hj, gR_M6 hj, gR_M7 hj, gR_M8 hj, gR_M9 hj, gR_M10 hj, gR_M11 hj, gR_M12 hj, cV_M hj, bk_some, bind_some', zb_0, zb_1, zb_or, cc_or, kset_1, kset_21, kint_1, kint_21, kint_22, gA_M4 hj κ hi, hc, p_isPerson, inR_p hp, gA_M0 hj κ hi, gA_M1 hj κ hi, p_needOf, p_workOf, gA_M5 hj κ hp, sA_M5 hj κ hp, s3, p_starve hj κ hi hp, nI_ne4 (show p < 2 ^ 31 by omega), nI_clamp (show p < 2 ^ 31 by omega), hd2, if_true, if_false, not_true_eq_false, not_false_eq_true, Bool.false_eq_true, Bool.true_eq_false, reduceIte, ite_true, ite_false]
    split <;> rfl
