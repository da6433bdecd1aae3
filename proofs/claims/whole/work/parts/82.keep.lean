/-! PURE: the dead stay dead, and the called live -/
def ac (κ : aK) : (Nat → Int32) × Int32 := (κ.2.2 4, κ.2.1 1)
def CA (κ : aK) : Prop := ∀ i, i < 9 → κ.2.2 4 i ≠ -4 → bitB (κ.2.1 1) (nI i) = true
/-- what a step of a day keeps of the living: nobody comes back, and the called live -/
def Liv (κ κ' : aK) : Prop := (∀ z, z < 9 → bitB (κ'.2.1 1) (nI z) = true → bitB (κ.2.1 1) (nI z) = true) ∧ (CA κ → CA κ')
theorem Liv.refl (κ : aK) : Liv κ κ := ⟨fun _ _ h => h, fun h => h⟩
theorem Liv.trans {a b c : aK} (h1 : Liv a b) (h2 : Liv b c) : Liv a c := ⟨fun z hz h => h1.1 z hz (h2.1 z hz h), fun h => h2.2 (h1.2 h)⟩
theorem Liv.of_ac {κ κ' : aK} (h : ac κ' = ac κ) : Liv κ κ' := by
  have h1 : κ'.2.2 4 = κ.2.2 4 := congrArg Prod.fst h
  have h2 : κ'.2.1 1 = κ.2.1 1 := congrArg Prod.snd h
  unfold Liv CA
  rw [h1, h2]
  exact ⟨fun _ _ h => h, fun h => h⟩
theorem Liv.call {κ : aK} {i : Nat} {x : Int32} (h : bitB (κ.2.1 1) (nI i) = true) : Liv κ (kset κ 4 i x) := by
  refine ⟨fun _ _ h => h, fun hC z hz hne => ?_⟩
  show bitB (κ.2.1 1) (nI z) = true
  by_cases hzi : z = i
  · rw [hzi]; exact h
  · refine hC z hz ?_
    have e : (kset κ 4 i x).2.2 4 z = κ.2.2 4 z := by
      show upd (κ.2.2 4) i x z = _
      unfold upd
      rw [if_neg hzi]
    rw [← e]; exact hne
theorem go_ac (i : Nat) (κ : aK) : ac (goF i κ) = ac κ := by
  unfold goF goTowK
  repeat' split
  all_goals rfl
theorem give_liv {P : Nat → Bool} {x : Int32} : ∀ (n a : Nat) (κ : aK), a + n ≤ 9 → (∀ i, i < 9 → P i = true → bitB (κ.2.1 1) (nI i) = true) → Liv κ (itr (giveF P x) a n κ)
  | 0, _, κ, _, _ => Liv.refl κ
  | n + 1, a, κ, ha, h => by
    show Liv κ (itr (giveF P x) (a + 1) n (giveF P x a κ))
    unfold giveF
    by_cases hP : P a = true
    · rw [if_pos hP]
      exact (Liv.call (h a (by omega) hP)).trans (give_liv n (a + 1) (kset κ 4 a x) (by omega) h)
    · rw [if_neg hP]
      exact give_liv n (a + 1) κ (by omega) h
theorem met_alive {κ : aK} {x : Int32} {i : Nat} (h : metB κ x i = true) : bitB (κ.2.1 1) (nI i) = true := by
  unfold metB at h
  rw [Bool.and_eq_true] at h
  exact h.1
theorem opt_liv {κ : aK} {o : Option Nat} {x : Int32} (h : ∀ i, o = some i → bitB (κ.2.1 1) (nI i) = true) : Liv κ (optS κ o x) := by
  cases o with
  | none => exact Liv.refl κ
  | some i => exact Liv.call (h i rfl)
theorem sp_liv (p : Nat) (κ : aK) : Liv κ (spF p κ) := by
  unfold spF speakK
  repeat' split
  · exact Liv.refl κ
  · refine opt_liv (fun i h => ?_)
    obtain ⟨-, h1, h2⟩ := fnd_lt h
    rw [Bool.and_eq_true] at h2
    exact met_alive h2.1
  · exact opt_liv (fun i h => met_alive (str_lt h).2)
  · exact give_liv 9 0 κ (by decide) (fun i hi h => met_alive h)
  · exact Liv.refl κ
theorem starve_liv (κ : aK) {i : Nat} (hi : i < 9) (p : Nat) : Liv κ (starveK κ i p) := by
  unfold starveK
  dsimp only
  split
  · exact Liv.of_ac rfl
  · refine ⟨fun z hz h => ?_, fun hC z hz hne => ?_⟩
    · have h' : bitB (κ.2.1 1 &&& (oneI i ^^^ -1)) (nI z) = true := h
      rw [bit_and _ _ (by omega), Bool.and_eq_true] at h'
      exact h'.1
    · show bitB (κ.2.1 1 &&& (oneI i ^^^ -1)) (nI z) = true
      have hne' : upd (κ.2.2 4) i (-4) z ≠ -4 := hne
      unfold upd at hne'
      by_cases hzi : z = i
      · rw [if_pos hzi] at hne'; exact absurd rfl hne'
      · rw [if_neg hzi] at hne'
        rw [bit_and _ _ (by omega), bit_not _ (by omega), bit_one (by omega) (by omega), decide_eq_false hzi, hC z hz hne']
        rfl
theorem fe_liv (m : Int32) {i : Nat} (hi : i < 9) (κ : aK) : Liv κ (feF m i κ) := by
  unfold feF feedK
  dsimp only
  repeat' split
  · exact Liv.of_ac rfl
  · exact starve_liv κ hi _
  · exact Liv.of_ac rfl
  · exact Liv.refl κ
theorem pass_liv (m : Int32) (κ : aK) : Liv κ (passK m κ) := by
  have h0 : Liv κ (kint (kint κ 0 (κ.2.1 0 + 1)) 2 0) := Liv.of_ac rfl
  have h1 : ∀ κ, Liv κ (itr goF 0 9 κ) := fun κ => itr_inv (I := Liv κ) 9 0 κ (Liv.refl κ) (fun i κ' _ _ h => h.trans (Liv.of_ac (go_ac i κ')))
  have h2 : ∀ κ, Liv κ (itr spF 0 5 κ) := fun κ => itr_inv (I := Liv κ) 5 0 κ (Liv.refl κ) (fun i κ' _ _ h => h.trans (sp_liv i κ'))
  have h3 : ∀ κ, Liv κ (itr (feF m) 0 9 κ) := fun κ => itr_inv (I := Liv κ) 9 0 κ (Liv.refl κ) (fun i κ' _ hi h => h.trans (fe_liv m (by omega) κ'))
  exact ((h0.trans (h1 _)).trans (h2 _)).trans (h3 _)
theorem days_liv (n : Nat) (κ : aK) : Liv κ (daysK n κ) := itr_inv (I := Liv κ) n 0 κ (Liv.refl κ) (fun i κ' _ _ h => h.trans (pass_liv 0 κ'))
/-- all of the mask live -/
def allB (m : Int32) (κ : aK) : Bool := decide (m &&& (κ.2.1 1 ^^^ (-1)) = 0)
def keepsB (m : Int32) : Nat → aK → Bool
  | 0, _ => true
  | n + 1, κ => if allB m (passK 0 κ) = true then keepsB m n (passK 0 κ) else false
theorem p_keeps {w : aW} {j : Nat} (hj : j + 9 < 75) (msk : Int32) {N : Nat} (hN : N < 1000) : ∀ (m d : Nat) (κ : aK) (n : Nat), d + m = N → m < n → WF κ → ∃ μ, loop2 (c_X0_keepsAlive_2 j msk (nI N)) n (nI d) (putM w j κ) = some (zb (keepsB msk m κ), putM w j μ)
  | 0, d, κ, n + 1, hm, _, _ => by
    have : d = N := by omega
    subst this
    refine ⟨κ, ?_⟩
    show c_X0_keepsAlive_2 j msk (nI d) (loop2 (c_X0_keepsAlive_2 j msk (nI d)) n) (nI d) (putM w j κ) = _
    simp only [c_X0_keepsAlive_2, Int32.le_refl, if_true, if_false, not_true_eq_false, not_false_eq_true, Bool.false_eq_true, Bool.true_eq_false, reduceIte, ite_true, ite_false]
    rfl
  | m + 1, d, κ, n + 1, hm, hn, hW => by
    show ∃ μ, c_X0_keepsAlive_2 j msk (nI N) (loop2 (c_X0_keepsAlive_2 j msk (nI N)) n) (nI d) (putM w j κ) = _
    unfold keepsB
    have hlt : ¬ nI N ≤ nI d := by rw [le_nI (by omega) (by omega)]; omega
    by_cases h : msk &&& ((passK 0 κ).2.1 1 ^^^ (-1)) = 0
    · obtain ⟨μ, hμ⟩ := p_keeps hj msk hN m (d + 1) (passK 0 κ) n (by omega) (by omega) (pass_WF hW (m := 0) (by decide))
      refine ⟨μ, ?_⟩
      rw [if_pos (show allB msk (passK 0 κ) = true from decide_eq_true h)]
      simp only [c_X0_keepsAlive_2, hlt, gI_M0 hj, gI_M1 hj, gI_M2 hj, gI_M3 hj, gR_M4 hj, gR_M5 hj, gR_M6 hj, gR_M7 hj, gR_M8 hj, gR_M9 hj, gR_M10 hj, gR_M11 hj, gR_M12 hj, cV_M hj, bk_some, bind_some', zb_0, zb_1, zb_or, cc_or, kset_1, kset_21, kint_1, kint_21, kint_22, p_passDay0 hj hW, h, nI_1, if_true, if_false, not_true_eq_false, not_false_eq_true, Bool.false_eq_true, Bool.true_eq_false, reduceIte, ite_true, ite_false]
      exact hμ
    · refine ⟨passK 0 κ, ?_⟩
      rw [if_neg (show ¬ allB msk (passK 0 κ) = true from fun z => h (of_decide_eq_true z))]
      simp only [c_X0_keepsAlive_2, hlt, gI_M0 hj, gI_M1 hj, gI_M2 hj, gI_M3 hj, gR_M4 hj, gR_M5 hj, gR_M6 hj, gR_M7 hj, gR_M8 hj, gR_M9 hj, gR_M10 hj, gR_M11 hj, gR_M12 hj, cV_M hj, bk_some, bind_some', zb_0, zb_1, zb_or, cc_or, kset_1, kset_21, kint_1, kint_21, kint_22, p_passDay0 hj hW, h, if_true, if_false, not_true_eq_false, not_false_eq_true, Bool.false_eq_true, Bool.true_eq_false, reduceIte, ite_true, ite_false]
      rfl
