/-! PURE: think, again, image, restore in the terms of κ and y -/
/-- a raw world that says κ, as a world of κ -/
def unraw (κ : aK) (σ : aR) : aY := (fun a => match a with | 0 => σ.1 12 | 1 => σ.1 19 | 2 => σ.1 20 | 3 => σ.1 21 | 4 => σ.1 22 | 5 => σ.1 23 | 6 => σ.1 29 | 7 => σ.1 30 | 8 => σ.1 31 | _ => σ.1 35, fun k => σ.2.1 (if k < 5 then 60 + k else 61 + k), fun k => σ.2.1 (51 + k), σ.2.2.1, σ.2.2.2.1, σ.2.2.2.2)
theorem putR_back (w : aW) (κ : aK) (σ : aR) (h0 : σ.1 0 = nI κ.1) (h6 : σ.1 6 = κ.2.1 1) (h11 : σ.1 11 = κ.2.1 0) (hb : ∀ b, b < κ.1 → ∀ k, k < 5 → σ.2.1 (51 + k) b = κ.2.2 k b) (hp : ∀ k, k < 4 → σ.2.1 (56 + k) = tr 5 (κ.2.2 (5 + k))) : putR w σ = putY w κ (unraw κ σ) := by
  have hm : ∀ k, k < 5 → mix κ.1 (κ.2.2 k) (σ.2.1 (51 + k)) = σ.2.1 (51 + k) := fun k hk => by
    funext z
    unfold mix
    split
    · next h => exact (hb z h k hk).symm
    · rfl
  have a0 := hm 0 (by decide)
  have a1 := hm 1 (by decide)
  have a2 := hm 2 (by decide)
  have a3 := hm 3 (by decide)
  have a4 := hm 4 (by decide)
  have b0 := hp 0 (by decide)
  have b1 := hp 1 (by decide)
  have b2 := hp 2 (by decide)
  have b3 := hp 3 (by decide)
  funext i
  unfold putR putY
  split
  · show Sum.inr (3, rfs σ) = Sum.inr (3, yfl κ (unraw κ σ))
    unfold rfs yfl
    rw [h0, h6, h11]
    rfl
  · exact congrArg (fun f => Sum.inl (0, 9, Sum.inl f)) a0.symm
  · exact congrArg (fun f => Sum.inl (0, 9, Sum.inl f)) a1.symm
  · exact congrArg (fun f => Sum.inl (0, 9, Sum.inl f)) a2.symm
  · exact congrArg (fun f => Sum.inl (0, 9, Sum.inl f)) a3.symm
  · exact congrArg (fun f => Sum.inl (0, 9, Sum.inl f)) a4.symm
  · exact congrArg (fun f => Sum.inl (0, 5, Sum.inl f)) b0
  · exact congrArg (fun f => Sum.inl (0, 5, Sum.inl f)) b1
  · exact congrArg (fun f => Sum.inl (0, 5, Sum.inl f)) b2
  · exact congrArg (fun f => Sum.inl (0, 5, Sum.inl f)) b3
  all_goals first | rfl | (split <;> first | rfl | simp_all)
/-- the row of y that lies at the cell r -/
def krow (r : Nat) : Nat := r - 61
theorem rawA_k {r : Nat} (hr : kin r) (κ : aK) (y : aY) : rawA κ y r = y.2.1 (krow r) := by rcases hr with rfl | rfl <;> rfl
theorem unraw_k {r : Nat} (hr : kin r) (κ : aK) (σ : aR) : (unraw κ σ).2.1 (krow r) = σ.2.1 r := by rcases hr with rfl | rfl <;> rfl
theorem tr5_ext {f : Nat → Int32} {g : Nat → Int32} : tr 5 g = tr 5 f ↔ ∀ p, p < 5 → g p = f p := by
  constructor
  · intro h p hp
    have := congrFun h p
    rwa [tr_at _ hp, tr_at _ hp] at this
  · intro h
    funext z
    unfold tr
    split
    · next hz => exact h z hz
    · rfl
theorem m_take {r : Nat} (hr : kin r) (w : aW) {κ : aK} (y : aY) (hk9 : κ.1 ≤ 9) : ∃ y', Yeq y y' ∧ Kept y' (krow r) κ ∧ (∀ k, k ≠ krow r → 5 ≤ k → k < 12 → y'.2.1 k = y.2.1 k) ∧ f_X4_carryAll 50 r 1 (putY w κ y) = some ((), putY w κ y') := by
  obtain ⟨σ', hR, hB, hP, e⟩ := carryAll_take hr w (raw κ y)
  obtain ⟨n1, n2, n3, n4, n5, n6, n7, n8, n9⟩ := kin_ne hr
  have hrr : r = 69 ∨ r = 70 := hr
  have hA : ∀ c, c ≠ r → σ'.2.1 c = rawA κ y c := hR.1
  have hS : ∀ z, z ≠ 30 → z ≠ 31 → σ'.1 z = rawS κ y z := hR.2.1
  refine ⟨unraw κ σ', ⟨hS 12 (by decide) (by decide), hS 29 (by decide) (by decide), fun k hk => ?_, hR.2.2⟩, ?_, fun k h1 h2 h3 => ?_, ?_⟩
  · show σ'.2.1 (if k < 5 then 60 + k else 61 + k) = _
    rw [if_pos hk, hA _ (by omega)]
    rcases (show k = 0 ∨ k = 1 ∨ k = 2 ∨ k = 3 ∨ k = 4 by omega) with rfl | rfl | rfl | rfl | rfl <;> rfl
  · unfold Kept
    rw [unraw_k hr]
    refine ⟨hB.1, hB.2.1, hB.2.2.1, fun b hb c hc => ?_, fun p hp c hc => ?_⟩
    · have e1 : ∀ c, c < 5 → rawA κ y (51 + c) b = κ.2.2 c b := by
        intro c hc
        rcases (show c = 0 ∨ c = 1 ∨ c = 2 ∨ c = 3 ∨ c = 4 by omega) with rfl | rfl | rfl | rfl | rfl <;> exact mix_at _ _ hb
      by_cases h9 : b < 9
      · rw [hB.2.2.2 b h9 c hc]
        exact e1 c hc
      · omega
    · rw [hP p hp c hc]
      rcases (show c = 0 ∨ c = 1 ∨ c = 2 ∨ c = 3 by omega) with rfl | rfl | rfl | rfl <;> exact tr_at _ hp
  · show σ'.2.1 (if k < 5 then 60 + k else 61 + k) = _
    unfold krow at h1
    rw [if_neg (by omega), hA _ (by omega)]
    rcases (show k = 5 ∨ k = 6 ∨ k = 7 ∨ k = 8 ∨ k = 9 ∨ k = 10 ∨ k = 11 by omega) with rfl | rfl | rfl | rfl | rfl | rfl | rfl <;> rfl
  · rw [putY_raw, e]
    congr 2
    refine putR_back w κ σ' (hS 0 (by decide) (by decide)) (hS 6 (by decide) (by decide)) (hS 11 (by decide) (by decide)) (fun b hb k hk => ?_) (fun k hk => ?_)
    · rw [hA _ (by omega)]
      rcases (show k = 0 ∨ k = 1 ∨ k = 2 ∨ k = 3 ∨ k = 4 by omega) with rfl | rfl | rfl | rfl | rfl <;> exact mix_at _ _ hb
    · rw [hA _ (by omega)]
      rcases (show k = 0 ∨ k = 1 ∨ k = 2 ∨ k = 3 by omega) with rfl | rfl | rfl | rfl <;> rfl
theorem m_back {r : Nat} (hr : kin r) (w : aW) (κ : aK) (y : aY) {κ0 : aK} (hk9 : κ0.1 ≤ 9) (hK : Kept y (krow r) κ0) : ∃ y', Yeq y y' ∧ (∀ k, 5 ≤ k → k < 12 → y'.2.1 k = y.2.1 k) ∧ f_X4_carryAll 50 r 0 (putY w κ y) = some ((), putY w κ0 y') := by
  obtain ⟨σ', hR, hB, hP, e⟩ := carryAll_back hr w (raw κ y)
  have hrr : r = 69 ∨ r = 70 := hr
  have hA : ∀ c, (c < 51 ∨ 59 < c) → σ'.2.1 c = rawA κ y c := hR.1
  have hS : ∀ z, z ≠ 0 → z ≠ 6 → z ≠ 11 → z ≠ 30 → z ≠ 31 → σ'.1 z = rawS κ y z := hR.2.1
  have hr2 : (raw κ y).2.1 r = y.2.1 (krow r) := rawA_k hr κ y
  obtain ⟨k0, k1, k2, k3, k4⟩ := hK
  refine ⟨unraw κ0 σ', ⟨hS 12 (by decide) (by decide) (by decide) (by decide) (by decide), hS 29 (by decide) (by decide) (by decide) (by decide) (by decide), fun k hk => ?_, hR.2.2.1⟩, fun k h2 h3 => ?_, ?_⟩
  · show σ'.2.1 (if k < 5 then 60 + k else 61 + k) = _
    rw [if_pos hk, hA _ (by omega)]
    rcases (show k = 0 ∨ k = 1 ∨ k = 2 ∨ k = 3 ∨ k = 4 by omega) with rfl | rfl | rfl | rfl | rfl <;> rfl
  · show σ'.2.1 (if k < 5 then 60 + k else 61 + k) = _
    rw [if_neg (by omega), hA _ (by omega)]
    rcases (show k = 5 ∨ k = 6 ∨ k = 7 ∨ k = 8 ∨ k = 9 ∨ k = 10 ∨ k = 11 by omega) with rfl | rfl | rfl | rfl | rfl | rfl | rfl <;> rfl
  · rw [putY_raw, e]
    congr 2
    obtain ⟨b0, b1, b2, b3⟩ := hB
    refine putR_back w κ0 σ' (b0.trans (by rw [hr2]; exact k0)) (b1.trans (by rw [hr2]; exact k1)) (b2.trans (by rw [hr2]; exact k2)) (fun b hb k hk => ?_) (fun k hk => ?_)
    · rw [b3 b (by omega) k hk, hr2]
      exact k3 b hb k hk
    · funext z
      unfold tr
      split
      · next hz =>
        rw [hP z hz k hk, hr2]
        exact k4 z hz k hk
      · next hz =>
        rw [hR.2.2.2.2.2.2 (56 + k) (by omega) z (by omega)]
        rcases (show k = 0 ∨ k = 1 ∨ k = 2 ∨ k = 3 by omega) with rfl | rfl | rfl | rfl <;> exact if_neg hz
/-- what is thought of κ is kept -/
theorem m_think (w : aW) {κ : aK} (y : aY) (hk : κ.1 ≤ 9) : ∃ y', Yeq y y' ∧ Kept y' 8 κ ∧ (∀ k, k ≠ 8 → 5 ≤ k → k < 12 → y'.2.1 k = y.2.1 k) ∧ f_X4_think 50 (putY w κ y) = some ((), putY w κ y') := by
  obtain ⟨y', h1, h2, h3, e⟩ := m_take (r := 69) (Or.inl rfl) w y hk
  refine ⟨y', h1, h2, h3, ?_⟩
  unfold f_X4_think
  rw [gR_Y27, bind_some', cV_Y, e]
  rfl
/-- and put back -/
theorem m_again (w : aW) (κ : aK) (y : aY) {κ0 : aK} (hk : κ0.1 ≤ 9) (hK : Kept y 8 κ0) : ∃ y', Yeq y y' ∧ (∀ k, 5 ≤ k → k < 12 → y'.2.1 k = y.2.1 k) ∧ Kept y' 8 κ0 ∧ f_X4_again 50 (putY w κ y) = some ((), putY w κ0 y') := by
  obtain ⟨y', h1, h2, e⟩ := m_back (r := 69) (Or.inl rfl) w κ y hk hK
  refine ⟨y', h1, h2, ?_, ?_⟩
  · unfold Kept
    rw [h2 8 (by decide) (by decide)]
    exact hK
  · unfold f_X4_again
    rw [gR_Y27, bind_some', cV_Y, e]
    rfl
