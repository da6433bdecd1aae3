/-! PURE: think and again once more, with the scalars; snow; mountains -/
theorem m_take2 {r : Nat} (hr : kin r) (w : aW) {κ : aK} (y : aY) (hk9 : κ.1 ≤ 9) : ∃ y', Yeq y y' ∧ (∀ z, z ≤ 9 → z ≠ 7 → z ≠ 8 → y'.1 z = y.1 z) ∧ Kept y' (krow r) κ ∧ (∀ k, k ≠ krow r → 5 ≤ k → k < 12 → y'.2.1 k = y.2.1 k) ∧ f_X4_carryAll 50 r 1 (putY w κ y) = some ((), putY w κ y') := by
  obtain ⟨σ', hR, hB, hP, e⟩ := carryAll_take hr w (raw κ y)
  obtain ⟨n1, n2, n3, n4, n5, n6, n7, n8, n9⟩ := kin_ne hr
  have hrr : r = 69 ∨ r = 70 := hr
  have hA : ∀ c, c ≠ r → σ'.2.1 c = rawA κ y c := hR.1
  have hS : ∀ z, z ≠ 30 → z ≠ 31 → σ'.1 z = rawS κ y z := hR.2.1
  refine ⟨unraw κ σ', ⟨hS 12 (by decide) (by decide), hS 29 (by decide) (by decide), fun k hk => ?_, hR.2.2⟩, fun z q1 q2 q3 => ?_, ?_, fun k h1 h2 h3 => ?_, ?_⟩
  · show σ'.2.1 (if k < 5 then 60 + k else 61 + k) = _
    rw [if_pos hk, hA _ (by omega)]
    rcases (show k = 0 ∨ k = 1 ∨ k = 2 ∨ k = 3 ∨ k = 4 by omega) with rfl | rfl | rfl | rfl | rfl <;> rfl
  · rcases (show z = 0 ∨ z = 1 ∨ z = 2 ∨ z = 3 ∨ z = 4 ∨ z = 5 ∨ z = 6 ∨ z = 9 by omega) with rfl | rfl | rfl | rfl | rfl | rfl | rfl | rfl
    · exact hS 12 (by decide) (by decide)
    · exact hS 19 (by decide) (by decide)
    · exact hS 20 (by decide) (by decide)
    · exact hS 21 (by decide) (by decide)
    · exact hS 22 (by decide) (by decide)
    · exact hS 23 (by decide) (by decide)
    · exact hS 29 (by decide) (by decide)
    · exact hS 35 (by decide) (by decide)
  · unfold Kept
    rw [unraw_k hr]
    refine ⟨hB.1, hB.2.1, hB.2.2.1, fun b hb c hc => ?_, fun p hp c hc => ?_⟩
    · have e1 : ∀ c, c < 5 → rawA κ y (51 + c) b = κ.2.2 c b := by
        intro c hc
        rcases (show c = 0 ∨ c = 1 ∨ c = 2 ∨ c = 3 ∨ c = 4 by omega) with rfl | rfl | rfl | rfl | rfl <;> exact mix_at _ _ hb
      by_cases h9 : b < 9
      · rw [hB.2.2.2 b h9 c hc]
        exact e1 c hc
      · omega
    · rw [hP p hp c hc]
      rcases (show c = 0 ∨ c = 1 ∨ c = 2 ∨ c = 3 by omega) with rfl | rfl | rfl | rfl <;> exact tr_at _ hp
  · show σ'.2.1 (if k < 5 then 60 + k else 61 + k) = _
    unfold krow at h1
    rw [if_neg (by omega), hA _ (by omega)]
    rcases (show k = 5 ∨ k = 6 ∨ k = 7 ∨ k = 8 ∨ k = 9 ∨ k = 10 ∨ k = 11 by omega) with rfl | rfl | rfl | rfl | rfl | rfl | rfl <;> rfl
  · rw [putY_raw, e]
    congr 2
    refine putR_back w κ σ' (hS 0 (by decide) (by decide)) (hS 6 (by decide) (by decide)) (hS 11 (by decide) (by decide)) (fun b hb k hk => ?_) (fun k hk => ?_)
    · rw [hA _ (by omega)]
      rcases (show k = 0 ∨ k = 1 ∨ k = 2 ∨ k = 3 ∨ k = 4 by omega) with rfl | rfl | rfl | rfl | rfl <;> exact mix_at _ _ hb
    · rw [hA _ (by omega)]
      rcases (show k = 0 ∨ k = 1 ∨ k = 2 ∨ k = 3 by omega) with rfl | rfl | rfl | rfl <;> rfl
theorem m_back2 {r : Nat} (hr : kin r) (w : aW) (κ : aK) (y : aY) {κ0 : aK} (hk9 : κ0.1 ≤ 9) (hK : Kept y (krow r) κ0) : ∃ y', Yeq y y' ∧ (∀ z, z ≤ 9 → z ≠ 7 → z ≠ 8 → y'.1 z = y.1 z) ∧ (∀ k, 5 ≤ k → k < 12 → y'.2.1 k = y.2.1 k) ∧ f_X4_carryAll 50 r 0 (putY w κ y) = some ((), putY w κ0 y') := by
  obtain ⟨σ', hR, hB, hP, e⟩ := carryAll_back hr w (raw κ y)
  have hrr : r = 69 ∨ r = 70 := hr
  have hA : ∀ c, (c < 51 ∨ 59 < c) → σ'.2.1 c = rawA κ y c := hR.1
  have hS : ∀ z, z ≠ 0 → z ≠ 6 → z ≠ 11 → z ≠ 30 → z ≠ 31 → σ'.1 z = rawS κ y z := hR.2.1
  have hr2 : (raw κ y).2.1 r = y.2.1 (krow r) := rawA_k hr κ y
  obtain ⟨k0, k1, k2, k3, k4⟩ := hK
  refine ⟨unraw κ0 σ', ⟨hS 12 (by decide) (by decide) (by decide) (by decide) (by decide), hS 29 (by decide) (by decide) (by decide) (by decide) (by decide), fun k hk => ?_, hR.2.2.1⟩, fun z q1 q2 q3 => ?_, fun k h2 h3 => ?_, ?_⟩
  · show σ'.2.1 (if k < 5 then 60 + k else 61 + k) = _
    rw [if_pos hk, hA _ (by omega)]
    rcases (show k = 0 ∨ k = 1 ∨ k = 2 ∨ k = 3 ∨ k = 4 by omega) with rfl | rfl | rfl | rfl | rfl <;> rfl
  · rcases (show z = 0 ∨ z = 1 ∨ z = 2 ∨ z = 3 ∨ z = 4 ∨ z = 5 ∨ z = 6 ∨ z = 9 by omega) with rfl | rfl | rfl | rfl | rfl | rfl | rfl | rfl
    · exact hS 12 (by decide) (by decide) (by decide) (by decide) (by decide)
    · exact hS 19 (by decide) (by decide) (by decide) (by decide) (by decide)
    · exact hS 20 (by decide) (by decide) (by decide) (by decide) (by decide)
    · exact hS 21 (by decide) (by decide) (by decide) (by decide) (by decide)
    · exact hS 22 (by decide) (by decide) (by decide) (by decide) (by decide)
    · exact hS 23 (by decide) (by decide) (by decide) (by decide) (by decide)
    · exact hS 29 (by decide) (by decide) (by decide) (by decide) (by decide)
    · exact hS 35 (by decide) (by decide) (by decide) (by decide) (by decide)
  · show σ'.2.1 (if k < 5 then 60 + k else 61 + k) = _
    rw [if_neg (by omega), hA _ (by omega)]
    rcases (show k = 5 ∨ k = 6 ∨ k = 7 ∨ k = 8 ∨ k = 9 ∨ k = 10 ∨ k = 11 by omega) with rfl | rfl | rfl | rfl | rfl | rfl | rfl <;> rfl
  · rw [putY_raw, e]
    congr 2
    obtain ⟨b0, b1, b2, b3⟩ := hB
    refine putR_back w κ0 σ' (b0.trans (by rw [hr2]; exact k0)) (b1.trans (by rw [hr2]; exact k1)) (b2.trans (by rw [hr2]; exact k2)) (fun b hb k hk => ?_) (fun k hk => ?_)
    · rw [b3 b (by omega) k hk, hr2]
      exact k3 b hb k hk
    · funext z
      unfold tr
      split
      · next hz =>
        rw [hP z hz k hk, hr2]
        exact k4 z hz k hk
      · next hz =>
        rw [hR.2.2.2.2.2.2 (56 + k) (by omega) z (by omega)]
        rcases (show k = 0 ∨ k = 1 ∨ k = 2 ∨ k = 3 by omega) with rfl | rfl | rfl | rfl <;> exact if_neg hz
theorem m_think2 (w : aW) {κ : aK} (y : aY) (hk : κ.1 ≤ 9) : ∃ y', Yeq y y' ∧ (∀ z, z ≤ 9 → z ≠ 7 → z ≠ 8 → y'.1 z = y.1 z) ∧ Kept y' 8 κ ∧ (∀ k, k ≠ 8 → 5 ≤ k → k < 12 → y'.2.1 k = y.2.1 k) ∧ f_X4_think 50 (putY w κ y) = some ((), putY w κ y') := by
  obtain ⟨y', h1, h5, h2, h3, e⟩ := m_take2 (r := 69) (Or.inl rfl) w y hk
  refine ⟨y', h1, h5, h2, h3, ?_⟩
  unfold f_X4_think
  rw [gR_Y27, bind_some', cV_Y, e]
  rfl
theorem m_again2 (w : aW) (κ : aK) (y : aY) {κ0 : aK} (hk : κ0.1 ≤ 9) (hK : Kept y 8 κ0) : ∃ y', Yk y y' ∧ (∀ z, z ≤ 9 → z ≠ 7 → z ≠ 8 → y'.1 z = y.1 z) ∧ (∀ k, 5 ≤ k → k < 12 → y'.2.1 k = y.2.1 k) ∧ Kept y' 8 κ0 ∧ f_X4_again 50 (putY w κ y) = some ((), putY w κ0 y') := by
  obtain ⟨y', h1, h5, h2, e⟩ := m_back2 (r := 69) (Or.inl rfl) w κ y hk hK
  refine ⟨y', ⟨h1, h2 9 (by decide) (by decide)⟩, h5, h2, ?_, ?_⟩
  · unfold Kept
    rw [h2 8 (by decide) (by decide)]
    exact hK
  · unfold f_X4_again
    rw [gR_Y27, bind_some', cV_Y, e]
    rfl
/-! snow -/
def snowF (bad k : Nat) (κ : aK) : aK := passK (if bitB (nI bad) (nI k) = true then 2 else 0) κ
def liveQ (κ : aK) (b n bad : Nat) : Bool := bitB ((itr (snowF bad) 0 n κ).2.1 1) (nI b)
theorem snow_WF {κ : aK} (hW : WF κ) (bad k : Nat) : WF (snowF bad k κ) := by
  unfold snowF
  split
  · exact pass_WF hW (m := 2) (by decide)
  · exact pass_WF hW (m := 0) (by decide)
theorem T_passDay2 (w : aW) {X : aX} (hW : WF X.2.1) : f_X0_passDay 11 2 (putX w X) = some ((), putX w (xmind X (passK 2 X.2.1))) := by
  have e := p_passDay (w := putX w X) d20 hW (m := 2) (by decide)
  rw [← X_mind, X_mind'] at e
  exact e
theorem x_lives (w : aW) {X : aX} (hW : WF X.1) {b n : Nat} (hn : n < 1000) (bad : Nat) (μ : aK) : ∃ μ', f_X3_livesThrough 0 (nI b) (nI n) (nI bad) (putX w (xmind X μ)) = some (zb (liveQ X.1 b n bad), putX w (xmind X μ')) := by
  refine ⟨itr (snowF bad) 0 n X.1, ?_⟩
  unfold f_X3_livesThrough
  simp only [gR_X0, gR_X1, gR_X2, gI_X3, gR_X4, gR_X5, gR_X6, cV_X, x_think, xmind_1, xmind_0, xmind_2, xnow_0, xnow_1, xnow_2, bk_some, bind_some', zb_0, zb_1, zb_or, cc_or]
  exact for2 (fun κ : aK => putX w (xmind X κ)) (c_X3_livesThrough_7 0 (nI b) (nI n) (nI bad)) n (snowF bad) (fun κ => some (zb (bitB (κ.2.1 1) (nI b)), putX w (xmind X κ))) (fun _ κ => WF κ)
    (fun k i κ hi hκ => by
      have hlt : ¬ nI n ≤ nI i := le_nIb (by omega) (by omega) hi
      unfold snowF
      by_cases h : bitB (nI bad) (nI i) = true
      · simp only [c_X3_livesThrough_7, hlt, gR_X0, gR_X1, gR_X2, gI_X3, gR_X4, gR_X5, gR_X6, cV_X, x_think, xmind_1, xmind_0, xmind_2, xnow_0, xnow_1, xnow_2, bk_some, bind_some', zb_0, zb_1, zb_or, cc_or, T_cV, T_gI0, T_gI1, T_gI2, T_gI3, T_gR4, T_gR5, T_gR6, T_gR7, T_gR8, T_gR9, T_gR10, T_gR11, T_gR12, T_hasBeast, T_isAlive, T_calledBy, T_calledByAnybody, T_needTogether, T_workTogether, T_freeOnes, p_has, h, T_passDay2 w (X := xmind X κ) hκ, nI_1, if_true, if_false, not_true_eq_false, not_false_eq_true, Bool.false_eq_true, Bool.true_eq_false, reduceIte, ite_true, ite_false]
      · simp only [c_X3_livesThrough_7, hlt, gR_X0, gR_X1, gR_X2, gI_X3, gR_X4, gR_X5, gR_X6, cV_X, x_think, xmind_1, xmind_0, xmind_2, xnow_0, xnow_1, xnow_2, bk_some, bind_some', zb_0, zb_1, zb_or, cc_or, T_cV, T_gI0, T_gI1, T_gI2, T_gI3, T_gR4, T_gR5, T_gR6, T_gR7, T_gR8, T_gR9, T_gR10, T_gR11, T_gR12, T_hasBeast, T_isAlive, T_calledBy, T_calledByAnybody, T_needTogether, T_workTogether, T_freeOnes, p_has, Bool.eq_false_iff.mpr h, T_passDay w (X := xmind X κ) hκ, nI_1, if_true, if_false, not_true_eq_false, not_false_eq_true, Bool.false_eq_true, Bool.true_eq_false, reduceIte, ite_true, ite_false])
    (fun i κ _ hκ => snow_WF hκ bad i) (fun k κ _ => by simp only [c_X3_livesThrough_7, Int32.le_refl, gR_X0, gR_X1, gR_X2, gI_X3, gR_X4, gR_X5, gR_X6, cV_X, x_think, xmind_1, xmind_0, xmind_2, xnow_0, xnow_1, xnow_2, bk_some, bind_some', zb_0, zb_1, zb_or, cc_or, T_cV, T_gI0, T_gI1, T_gI2, T_gI3, T_gR4, T_gR5, T_gR6, T_gR7, T_gR8, T_gR9, T_gR10, T_gR11, T_gR12, T_hasBeast, T_isAlive, T_calledBy, T_calledByAnybody, T_needTogether, T_workTogether, T_freeOnes, if_true, if_false, not_true_eq_false, not_false_eq_true, Bool.false_eq_true, Bool.true_eq_false, reduceIte, ite_true, ite_false]) n 0 X.1 a_fuel (by omega) hn hW
def zcN (bad : Nat) : Nat → Nat → Nat
  | _, 0 => 0
  | k, c + 1 => (if bitB (nI bad) (nI k) = true then 0 else 1) + zcN bad (k + 1) c
theorem zc_pop : ∀ n, n < 8 → ∀ bad, bad < 2 ^ n → nI n - popI (nI bad) = nI (zcN bad 0 n) := by decide +kernel
theorem zc_le (bad : Nat) : ∀ c k, zcN bad k c ≤ c
  | 0, _ => Nat.le_refl _
  | c + 1, k => by
    have := zc_le bad c (k + 1)
    unfold zcN
    split <;> omega
theorem pow_itr (a : Nat) : ∀ e i s, itr (fun _ s => s * a) i e s = s * a ^ e
  | 0, _, s => by rw [Nat.pow_zero, Nat.mul_one]; rfl
  | e + 1, i, s => by
    show itr (fun _ s => s * a) (i + 1) e (s * a) = _
    rw [pow_itr a e, Nat.mul_assoc, Nat.pow_succ, Nat.mul_comm a]
theorem p_power (w : aW) {a e : Nat} (ha : a < 2 ^ 31) (he : e < 1000) : f_X3_power (nI a) (nI e) w = some (lN (a ^ e), w) := by
  unfold f_X3_power
  have h := for3 (fun s : Nat => lN s) (fun _ => w) (c_X3_power_5 (nI a) (nI e)) e (fun _ s => s * a) (fun s => some (lN s, w)) (fun _ _ => True) (fun k i s hi _ => by
    simp only [c_X3_power_5, le_nIb (show e < 2 ^ 31 by omega) (show i < 2 ^ 31 by omega) hi, nI_l ha, lN_mul, nI_1, if_true, if_false, not_true_eq_false, not_false_eq_true, Bool.false_eq_true, Bool.true_eq_false, reduceIte, ite_true, ite_false]) (fun _ _ _ _ => trivial) (fun k s _ => by simp only [c_X3_power_5, Int32.le_refl, if_true, if_false, not_true_eq_false, not_false_eq_true, Bool.false_eq_true, Bool.true_eq_false, reduceIte, ite_true, ite_false]) e 0 1 a_fuel (by omega) he trivial
  refine Eq.trans h ?_
  rw [pow_itr, Nat.one_mul]
def snF (κ : aK) (b n t bad s : Nat) : Nat := if liveQ κ b n bad = true then s + (t - 1) ^ zcN bad 0 n else s
theorem pow_le7 {t z : Nat} (ht : t ≤ 20) (hz : z ≤ 7) : (t - 1) ^ z ≤ 893871739 := by
  have h1 : (t - 1) ^ z ≤ 19 ^ z := Nat.pow_le_pow_left (by omega) z
  have h2 : 19 ^ z ≤ 19 ^ 7 := Nat.pow_le_pow_right (by decide) hz
  have h3 : 19 ^ 7 = 893871739 := by decide
  omega
theorem sn_bound (κ : aK) (b : Nat) {n t : Nat} (hn : n ≤ 7) (ht : t ≤ 20) : ∀ c i s, itr (snF κ b n t) i c s ≤ s + c * 893871739
  | 0, _, s => by show s ≤ _; omega
  | c + 1, i, s => by
    show itr (snF κ b n t) (i + 1) c (snF κ b n t i s) ≤ _
    have h1 := sn_bound κ b hn ht c (i + 1) (snF κ b n t i s)
    have h2 : snF κ b n t i s ≤ s + 893871739 := by
      unfold snF
      have := pow_le7 (z := zcN i 0 n) ht (Nat.le_trans (zc_le i n 0) hn)
      split <;> omega
    omega
theorem one_2n : ∀ n, n < 8 → (1 : Int32) <<< (nI n &&& 31) = nI (2 ^ n) := by decide
theorem two_pow7 {n : Nat} (hn : n < 8) : 2 ^ n ≤ 128 := by
  have : 2 ^ n ≤ 2 ^ 7 := Nat.pow_le_pow_right (by decide) (by omega)
  omega
theorem pow_lt31 {t n : Nat} (ht : t ≤ 20) (hn : n < 8) : t ^ n < 2 ^ 31 := by
  have h1 : t ^ n ≤ 20 ^ n := Nat.pow_le_pow_left ht n
  have h2 : 20 ^ n ≤ 20 ^ 7 := Nat.pow_le_pow_right (by decide) (by omega)
  have h3 : 20 ^ 7 = 1280000000 := by decide
  omega
theorem snowX (w : aW) {X : aX} (hW : WF X.1) {b n t : Nat} (hn : n < 8) (h2 : 2 ≤ t) (ht : t ≤ 20) {part : Int32} (hp : part = 0 ∨ part = 1) : ∀ (c i s : Nat) (μ : aK) (f : Nat), i + c = 2 ^ n → c < f → s + c * 893871739 < 2 ^ 63 → ∃ μ', loop3 (c_X3_snow_51 0 (nI b) (nI n) (nI t) part) f (lN s) (nI i) (putX w (xmind X μ)) = some (fracK (itr (snF X.1 b n t) i c s) (t ^ n) part, putX w (xmind X μ'))
  | 0, i, s, μ, f + 1, hi, _, hb => by
    have : i = 2 ^ n := by omega
    subst this
    refine ⟨μ, ?_⟩
    have hf := p_frac (putX w (xmind X μ)) (a := s) (b := t ^ n) (by omega) (pow_lt31 ht hn) (Or.inr (Nat.pow_pos (by omega))) hp
    rw [loop3_s]
    simp only [c_X3_snow_51, one_2n n hn, Int32.le_refl, p_power (putX w (xmind X μ)) (a := t) (e := n) (by omega) (by omega), bk_some, hf, if_true, if_false, not_true_eq_false, not_false_eq_true, Bool.false_eq_true, Bool.true_eq_false, reduceIte, ite_true, ite_false]
    rfl
  | c + 1, i, s, μ, f + 1, hi, hf, hb => by
    have hp7 := two_pow7 hn
    have hlt : ¬ nI (2 ^ n) ≤ nI i := le_nIb (by omega) (by omega) (by omega)
    obtain ⟨μ1, h1⟩ := x_lives w hW (b := b) (n := n) (by omega) i μ
    rw [loop3_s]
    show ∃ μ', _ = some (fracK (itr (snF X.1 b n t) (i + 1) c (snF X.1 b n t i s)) (t ^ n) part, _)
    have hz := zc_pop n hn i (by omega)
    have hzl := zc_le i n 0
    have hpw := pow_le7 (z := zcN i 0 n) ht (by omega)
    have hb' : s + c * 893871739 < 2 ^ 63 := Nat.lt_of_le_of_lt (Nat.add_le_add_left (Nat.mul_le_mul_right 893871739 (Nat.le_succ c)) s) hb
    have hi' : i + 1 + c = 2 ^ n := by omega
    have hf' : c < f := by omega
    have ht1 : nI t - 1 = nI (t - 1) := by rw [show (1 : Int32) = nI 1 from rfl, nI_sub (show 1 ≤ t by omega)]
    by_cases hl : liveQ X.1 b n i = true
    · have e : snF X.1 b n t i s = s + (t - 1) ^ zcN i 0 n := if_pos hl
      obtain ⟨μ', h'⟩ := snowX w hW (b := b) hn h2 ht hp c (i + 1) (s + (t - 1) ^ zcN i 0 n) μ1 f (by omega) (by omega) (by omega)
      refine ⟨μ', ?_⟩
      rw [e, ← h']
      simp only [c_X3_snow_51, one_2n n hn, hlt, gR_X0, gR_X1, gR_X2, gI_X3, gR_X4, gR_X5, gR_X6, cV_X, x_think, xmind_1, xmind_0, xmind_2, xnow_0, xnow_1, xnow_2, bk_some, bind_some', zb_0, zb_1, zb_or, cc_or, h1, hl, p_bitCount, hz, ht1, p_power (putX w (xmind X μ1)) (a := t - 1) (e := zcN i 0 n) (by omega) (by omega), lN_add, nI_1, if_true, if_false, not_true_eq_false, not_false_eq_true, Bool.false_eq_true, Bool.true_eq_false, reduceIte, ite_true, ite_false]
    · have e : snF X.1 b n t i s = s := if_neg hl
      obtain ⟨μ', h'⟩ := snowX w hW (b := b) hn h2 ht hp c (i + 1) s μ1 f hi' hf' hb'
      refine ⟨μ', ?_⟩
      rw [e, ← h']
      simp only [c_X3_snow_51, one_2n n hn, hlt, gR_X0, gR_X1, gR_X2, gI_X3, gR_X4, gR_X5, gR_X6, cV_X, x_think, xmind_1, xmind_0, xmind_2, xnow_0, xnow_1, xnow_2, bk_some, bind_some', zb_0, zb_1, zb_or, cc_or, h1, Bool.eq_false_iff.mpr hl, nI_1, if_true, if_false, not_true_eq_false, not_false_eq_true, Bool.false_eq_true, Bool.true_eq_false, reduceIte, ite_true, ite_false]
def snowK (x n t part : Int32) (κ : aK) : Int64 := if inR x 0 (nI κ.1 - 1) = true then (if inR n 0 7 = true then (if inR t 2 20 = true then (if inR part 0 1 = true then fracK (itr (snF κ (ix x) (ix n) (ix t)) 0 (2 ^ ix n) 0) (ix t ^ ix n) part else 1000000001) else 1000000001) else 1000000001) else 1000000001
theorem in20 {x : Int32} (h : inR x 2 20 = true) : ∃ t, 2 ≤ t ∧ t ≤ 20 ∧ x = nI t := by
  have h' := h
  unfold inR at h
  rw [Bool.and_eq_true, decide_eq_true_eq, decide_eq_true_eq] at h
  obtain ⟨t, ht, rfl⟩ := inR_nI (x := x) (n := 20) (by decide) (by
    unfold inR
    rw [decide_eq_true (Int32.le_trans (by decide) h.1), decide_eq_true (show x ≤ nI 20 from h.2)]
    rfl)
  refine ⟨t, ?_, ht, rfl⟩
  have := h.1
  rw [show (2 : Int32) = nI 2 from rfl, le_nI (by decide) (by omega)] at this
  exact this
theorem x_snow (w : aW) {X : aX} (hW : WF X.1) (x n t part : Int32) : ∃ μ, f_X3_snow 0 x n t part (putX w X) = some (snowK x n t part X.1, putX w (xmind X μ)) := by
  unfold f_X3_snow snowK
  by_cases h1 : inR x 0 (nI X.1.1 - 1) = true
  · by_cases h2 : inR n 0 7 = true
    · by_cases h3 : inR t 2 20 = true
      · by_cases h4 : inR part 0 1 = true
        · obtain ⟨b, hb, rfl⟩ := inB hW.1 h1
          obtain ⟨m, hm, rfl⟩ := in7 h2
          obtain ⟨u, hu2, hu, rfl⟩ := in20 h3
          have hp7 := two_pow7 hm
          have hb9 := hW.1
          obtain ⟨μ, hl⟩ := snowX w hW (b := b) hm hu2 hu (part01 h4) (2 ^ m) 0 0 X.2.1 a_fuel (by omega) (show 2 ^ m < 1000 by omega) (by omega)
          refine ⟨μ, ?_⟩
          simp only [h1, h2, h3, h4, gR_X0, gR_X1, gR_X2, gI_X3, gR_X4, gR_X5, gR_X6, cV_X, x_think, xmind_1, xmind_0, xmind_2, xnow_0, xnow_1, xnow_2, bk_some, bind_some', zb_0, zb_1, zb_or, cc_or, N_cV, N_gI0, N_gI1, N_gI2, N_gI3, N_gR4, N_gR5, N_gR6, N_gR7, N_gR8, N_gR9, N_gR10, N_gR11, N_gR12, N_hasBeast, N_isAlive, N_calledBy, N_calledByAnybody, N_needTogether, N_workTogether, N_freeOnes, p_within, ix_nI (show b < 2 ^ 31 by omega), ix_nI (show m < 2 ^ 31 by omega), ix_nI (show u < 2 ^ 31 by omega), if_true, if_false, not_true_eq_false, not_false_eq_true, Bool.false_eq_true, Bool.true_eq_false, reduceIte, ite_true, ite_false]
          exact hl
        · have h4 := Bool.eq_false_iff.mpr h4
          exact ⟨X.2.1, by simp only [h1, h2, h3, h4, gR_X0, gR_X1, gR_X2, gI_X3, gR_X4, gR_X5, gR_X6, cV_X, x_think, xmind_1, xmind_0, xmind_2, xnow_0, xnow_1, xnow_2, bk_some, bind_some', zb_0, zb_1, zb_or, cc_or, N_cV, N_gI0, N_gI1, N_gI2, N_gI3, N_gR4, N_gR5, N_gR6, N_gR7, N_gR8, N_gR9, N_gR10, N_gR11, N_gR12, N_hasBeast, N_isAlive, N_calledBy, N_calledByAnybody, N_needTogether, N_workTogether, N_freeOnes, p_within, if_true, if_false, not_true_eq_false, not_false_eq_true, Bool.false_eq_true, Bool.true_eq_false, reduceIte, ite_true, ite_false]; rfl⟩
      · have h3 := Bool.eq_false_iff.mpr h3
        exact ⟨X.2.1, by simp only [h1, h2, h3, gR_X0, gR_X1, gR_X2, gI_X3, gR_X4, gR_X5, gR_X6, cV_X, x_think, xmind_1, xmind_0, xmind_2, xnow_0, xnow_1, xnow_2, bk_some, bind_some', zb_0, zb_1, zb_or, cc_or, N_cV, N_gI0, N_gI1, N_gI2, N_gI3, N_gR4, N_gR5, N_gR6, N_gR7, N_gR8, N_gR9, N_gR10, N_gR11, N_gR12, N_hasBeast, N_isAlive, N_calledBy, N_calledByAnybody, N_needTogether, N_workTogether, N_freeOnes, p_within, if_true, if_false, not_true_eq_false, not_false_eq_true, Bool.false_eq_true, Bool.true_eq_false, reduceIte, ite_true, ite_false]; rfl⟩
    · have h2 := Bool.eq_false_iff.mpr h2
      exact ⟨X.2.1, by simp only [h1, h2, gR_X0, gR_X1, gR_X2, gI_X3, gR_X4, gR_X5, gR_X6, cV_X, x_think, xmind_1, xmind_0, xmind_2, xnow_0, xnow_1, xnow_2, bk_some, bind_some', zb_0, zb_1, zb_or, cc_or, N_cV, N_gI0, N_gI1, N_gI2, N_gI3, N_gR4, N_gR5, N_gR6, N_gR7, N_gR8, N_gR9, N_gR10, N_gR11, N_gR12, N_hasBeast, N_isAlive, N_calledBy, N_calledByAnybody, N_needTogether, N_workTogether, N_freeOnes, p_within, if_true, if_false, not_true_eq_false, not_false_eq_true, Bool.false_eq_true, Bool.true_eq_false, reduceIte, ite_true, ite_false]; rfl⟩
  · have h1 := Bool.eq_false_iff.mpr h1
    exact ⟨X.2.1, by simp only [h1, gR_X0, gR_X1, gR_X2, gI_X3, gR_X4, gR_X5, gR_X6, cV_X, x_think, xmind_1, xmind_0, xmind_2, xnow_0, xnow_1, xnow_2, bk_some, bind_some', zb_0, zb_1, zb_or, cc_or, N_cV, N_gI0, N_gI1, N_gI2, N_gI3, N_gR4, N_gR5, N_gR6, N_gR7, N_gR8, N_gR9, N_gR10, N_gR11, N_gR12, N_hasBeast, N_isAlive, N_calledBy, N_calledByAnybody, N_needTogether, N_workTogether, N_freeOnes, if_true, if_false, not_true_eq_false, not_false_eq_true, Bool.false_eq_true, Bool.true_eq_false, reduceIte, ite_true, ite_false]; rfl⟩
def oddP (t bad : Nat) : Nat → Nat → Nat
  | _, 0 => 1
  | k, c + 1 => (if bitB (nI bad) (nI k) = true then 1 else t - 1) * oddP t bad (k + 1) c
theorem odd_zc (t bad : Nat) : ∀ c k, oddP t bad k c = (t - 1) ^ zcN bad k c
  | 0, _ => rfl
  | c + 1, k => by
    unfold oddP zcN
    rw [odd_zc t bad c (k + 1)]
    by_cases h : bitB (nI bad) (nI k) = true
    · rw [if_pos h, if_pos h, Nat.one_mul, Nat.zero_add]
    · rw [if_neg h, if_neg h, Nat.pow_add, Nat.pow_one]
theorem loop6_s {α0 α1 α2 α3 α4 β : Type} (B : (α0 → α1 → α2 → α3 → α4 → aW → Option β) → α0 → α1 → α2 → α3 → α4 → aW → Option β) (n : Nat) : loop6 B (n + 1) = B (loop6 B n) := rfl
theorem ysn_back {Y : aY} (h : Y.1 0 = 0) (x : Int32) : yint (yint Y 0 x) 0 0 = Y := by
  refine Prod.ext (funext fun z => ?_) rfl
  show (if z = 0 then 0 else (if z = 0 then x else Y.1 z)) = Y.1 z
  by_cases hz : z = 0
  · rw [if_pos hz, hz, h]
  · rw [if_neg hz, if_neg hz]
theorem snowYin (w : aW) {κ0 : aK} (hk9 : κ0.1 ≤ 9) {b n t : Nat} (hn : n < 8) (h2 : 2 ≤ t) (ht : t ≤ 20) (part : Int32) (k89 : Int64 → Int64 → Int32 → aW → Option (Int64 × aW)) (s u bad : Nat) : ∀ (c k o : Nat) (κ : aK) (Y : aY) (f : Nat), k + c = n → c < f → WF κ → Y.1 0 = 0 → Kept Y 8 κ0 → ∃ Y', Yk Y Y' ∧ Kept Y' 8 κ0 ∧ loop6 (c_X4_snow_103 50 (nI b) (nI n) (nI t) part k89) f (lN s) (lN u) (nI bad) (lN o) (nI k) (putY w κ Y) = k89 (lN (if bitB ((itr (snowF bad) k c κ).2.1 1) (nI b) = true then s + o * oddP t bad k c else s)) (lN u) (nI (bad + 1)) (putY w κ0 Y')
  | 0, k, o, κ, Y, f + 1, hk, _, hW, h0, hK => by
    have : k = n := by omega
    subst this
    obtain ⟨Y2, e2, hK2, ha⟩ := k_again w κ Y hk9 hK
    refine ⟨Y2, e2, hK2, ?_⟩
    rw [loop6_s]
    show _ = k89 (lN (if bitB (κ.2.1 1) (nI b) = true then s + o * 1 else s)) _ _ _
    by_cases h : bitB (κ.2.1 1) (nI b) = true
    · rw [if_pos h, Nat.mul_one]
      simp only [c_X4_snow_103, Int32.le_refl, p_hasBit, h, gI_Y0, gR_Y1, gR_Y2, gR_Y3, gR_Y4, gR_Y5, gI_Y6, gR_Y7, gR_Y8, gR_Y9, gR_Y10, gI_Y11, gI_Y12, gR_Y13, gR_Y14, gR_Y15, gR_Y16, gR_Y17, gR_Y18, gI_Y19, gI_Y20, gI_Y21, gI_Y22, gI_Y23, gR_Y24, gR_Y25, gR_Y26, gR_Y27, gR_Y28, gI_Y29, gI_Y30, gI_Y31, gR_Y33, gR_Y34, gI_Y35, gR_Y36, cV_Y, bk_some, bind_some', zb_0, zb_1, zb_or, cc_or, kset_1, kset_21, kint_1, kint_21, kint_22, putY_moved, ha, lN_add, nI_1, if_true, if_false, not_true_eq_false, not_false_eq_true, Bool.false_eq_true, Bool.true_eq_false, reduceIte, ite_true, ite_false]
    · rw [if_neg h]
      simp only [c_X4_snow_103, Int32.le_refl, p_hasBit, Bool.eq_false_iff.mpr h, gI_Y0, gR_Y1, gR_Y2, gR_Y3, gR_Y4, gR_Y5, gI_Y6, gR_Y7, gR_Y8, gR_Y9, gR_Y10, gI_Y11, gI_Y12, gR_Y13, gR_Y14, gR_Y15, gR_Y16, gR_Y17, gR_Y18, gI_Y19, gI_Y20, gI_Y21, gI_Y22, gI_Y23, gR_Y24, gR_Y25, gR_Y26, gR_Y27, gR_Y28, gI_Y29, gI_Y30, gI_Y31, gR_Y33, gR_Y34, gI_Y35, gR_Y36, cV_Y, bk_some, bind_some', zb_0, zb_1, zb_or, cc_or, kset_1, kset_21, kint_1, kint_21, kint_22, putY_moved, ha, show (0 : Int64) = lN 0 from rfl, lN_add, Nat.add_zero, nI_1, if_true, if_false, not_true_eq_false, not_false_eq_true, Bool.false_eq_true, Bool.true_eq_false, reduceIte, ite_true, ite_false]
  | c + 1, k, o, κ, Y, f + 1, hk, hf, hW, h0, hK => by
    have hlt : ¬ nI n ≤ nI k := le_nIb (by omega) (by omega) (by omega)
    rw [loop6_s]
    show ∃ Y', Yk Y Y' ∧ Kept Y' 8 κ0 ∧ _ = k89 (lN (if bitB ((itr (snowF bad) (k + 1) c (snowF bad k κ)).2.1 1) (nI b) = true then s + o * ((if bitB (nI bad) (nI k) = true then 1 else t - 1) * oddP t bad (k + 1) c) else s)) _ _ _
    have ih := fun o => snowYin w hk9 (b := b) hn h2 ht part k89 s u bad c (k + 1) o (snowF bad k κ) Y f (by omega) (by omega) (snow_WF hW bad k) h0 hK
    by_cases h : bitB (nI bad) (nI k) = true
    · obtain ⟨Y', e', hK', h'⟩ := ih (o * 1)
      refine ⟨Y', e', hK', ?_⟩
      have hd := m_dayOn w (yint Y 0 2) hW (m := 2) rfl (by decide)
      rw [ysn_back h0, show nI 2 = 2 from rfl] at hd
      have hs : snowF bad k κ = passK 2 κ := by unfold snowF; rw [if_pos h]
      rw [if_pos h, ← Nat.mul_assoc, ← h', hs]
      simp only [c_X4_snow_103, c_X4_snow_129, hlt, p_hasBit, h, gI_Y0, gR_Y1, gR_Y2, gR_Y3, gR_Y4, gR_Y5, gI_Y6, gR_Y7, gR_Y8, gR_Y9, gR_Y10, gI_Y11, gI_Y12, gR_Y13, gR_Y14, gR_Y15, gR_Y16, gR_Y17, gR_Y18, gI_Y19, gI_Y20, gI_Y21, gI_Y22, gI_Y23, gR_Y24, gR_Y25, gR_Y26, gR_Y27, gR_Y28, gI_Y29, gI_Y30, gI_Y31, gR_Y33, gR_Y34, gI_Y35, gR_Y36, cV_Y, bk_some, bind_some', zb_0, zb_1, zb_or, cc_or, kset_1, kset_21, kint_1, kint_21, kint_22, putY_moved, sF_Y12, hd, show (1 : Int64) = lN 1 from rfl, lN_mul, nI_1, if_true, if_false, not_true_eq_false, not_false_eq_true, Bool.false_eq_true, Bool.true_eq_false, reduceIte, ite_true, ite_false]
    · obtain ⟨Y', e', hK', h'⟩ := ih (o * (t - 1))
      refine ⟨Y', e', hK', ?_⟩
      have hd := m_dayOn w (yint Y 0 0) hW (m := 0) rfl (by decide)
      rw [ysn_back h0, show nI 0 = 0 from rfl] at hd
      have hs : snowF bad k κ = passK 0 κ := by unfold snowF; rw [if_neg h]
      have ht1 : (nI t - 1).toInt64 = lN (t - 1) := by
        rw [show (1 : Int32) = nI 1 from rfl, nI_sub (show 1 ≤ t by omega), nI_l (by omega)]
      rw [if_neg h, ← Nat.mul_assoc, ← h', hs]
      simp only [c_X4_snow_103, c_X4_snow_129, hlt, p_hasBit, Bool.eq_false_iff.mpr h, gI_Y0, gR_Y1, gR_Y2, gR_Y3, gR_Y4, gR_Y5, gI_Y6, gR_Y7, gR_Y8, gR_Y9, gR_Y10, gI_Y11, gI_Y12, gR_Y13, gR_Y14, gR_Y15, gR_Y16, gR_Y17, gR_Y18, gI_Y19, gI_Y20, gI_Y21, gI_Y22, gI_Y23, gR_Y24, gR_Y25, gR_Y26, gR_Y27, gR_Y28, gI_Y29, gI_Y30, gI_Y31, gR_Y33, gR_Y34, gI_Y35, gR_Y36, cV_Y, bk_some, bind_some', zb_0, zb_1, zb_or, cc_or, kset_1, kset_21, kint_1, kint_21, kint_22, putY_moved, sF_Y12, hd, ht1, lN_mul, nI_1, if_true, if_false, not_true_eq_false, not_false_eq_true, Bool.false_eq_true, Bool.true_eq_false, reduceIte, ite_true, ite_false]
theorem snowY (w : aW) {κ : aK} (hW : WF κ) {b n t : Nat} (hn : n < 8) (h2 : 2 ≤ t) (ht : t ≤ 20) {part : Int32} (hp : part = 0 ∨ part = 1) : ∀ (c i s : Nat) (Y : aY) (f : Nat), i + c = 2 ^ n → c < f → s + c * 893871739 < 2 ^ 63 → Y.1 0 = 0 → Kept Y 8 κ → ∃ Y', Yk Y Y' ∧ loop4 (c_X4_snow_89 50 (nI b) (nI n) (nI t) part) f (lN s) (lN (t ^ n)) (nI i) (putY w κ Y) = some (fracK (itr (snF κ b n t) i c s) (t ^ n) part, putY w κ Y')
  | 0, i, s, Y, f + 1, hi, _, hb, _, _ => by
    have : i = 2 ^ n := by omega
    subst this
    refine ⟨Y, Yk.refl Y, ?_⟩
    have hf := m_frac (putY w κ Y) (a := s) (b := t ^ n) (by omega) (pow_lt31 ht hn) (Or.inr (Nat.pow_pos (by omega))) part
    rw [loop4_s]
    simp only [c_X4_snow_89, one_2n n hn, Int32.le_refl, bk_some, hf, if_true, if_false, not_true_eq_false, not_false_eq_true, Bool.false_eq_true, Bool.true_eq_false, reduceIte, ite_true, ite_false]
    rfl
  | c + 1, i, s, Y, f + 1, hi, hf, hb, h0, hK => by
    have hp7 := two_pow7 hn
    have hlt : ¬ nI (2 ^ n) ≤ nI i := le_nIb (by omega) (by omega) (by omega)
    rw [loop4_s]
    show ∃ Y', Yk Y Y' ∧ _ = some (fracK (itr (snF κ b n t) (i + 1) c (snF κ b n t i s)) (t ^ n) part, _)
    have hzl := zc_le i n 0
    have hpw := pow_le7 (z := zcN i 0 n) ht (by omega)
    obtain ⟨Y1, e1, hK1, h1⟩ := snowYin w hW.1 (b := b) hn h2 ht part (loop4 (c_X4_snow_89 50 (nI b) (nI n) (nI t) part) f) s (t ^ n) i n 0 1 κ Y a_fuel (by omega) (show n < 1000 by omega) hW h0 hK
    have e : (if bitB ((itr (snowF i) 0 n κ).2.1 1) (nI b) = true then s + 1 * oddP t i 0 n else s) = snF κ b n t i s := by
      rw [Nat.one_mul, odd_zc]; rfl
    rw [e] at h1
    have hsn : snF κ b n t i s ≤ s + 893871739 := by
      unfold snF
      split <;> omega
    obtain ⟨Y', e', h'⟩ := snowY w hW (b := b) hn h2 ht hp c (i + 1) (snF κ b n t i s) Y1 f (by omega) (by omega) (by omega) (e1.1.1.trans h0) hK1
    refine ⟨Y', e1.trans e', ?_⟩
    simp only [c_X4_snow_89, one_2n n hn, hlt, if_true, if_false, not_true_eq_false, not_false_eq_true, Bool.false_eq_true, Bool.true_eq_false, reduceIte, ite_true, ite_false]
    exact h1.trans h'
theorem below_Y (w : aW) (κ : aK) (Y : aY) (b : Int32) {n t : Nat} (hn : n < 8) (ht : t ≤ 20) (part : Int32) : ∀ (c i u : Nat) (f : Nat), i + c = n → c < f → loop4 (c_X4_snow_63 50 b (nI n) (nI t) part) f 0 (lN u) (nI i) (putY w κ Y) = (bk (f_X4_think 50 (putY w κ Y)) fun _ w10 => loop4 (c_X4_snow_89 50 b (nI n) (nI t) part) a_fuel 0 (lN (u * t ^ c)) 0 w10)
  | 0, i, u, f + 1, hi, _ => by
    have : i = n := by omega
    subst this
    rw [loop4_s]
    simp only [c_X4_snow_63, Int32.le_refl, cV_Y, Nat.pow_zero, Nat.mul_one, if_true, if_false, not_true_eq_false, not_false_eq_true, Bool.false_eq_true, Bool.true_eq_false, reduceIte, ite_true, ite_false]
  | c + 1, i, u, f + 1, hi, hf => by
    rw [loop4_s]
    have hlt : ¬ nI n ≤ nI i := le_nIb (by omega) (by omega) (by omega)
    simp only [c_X4_snow_63, hlt, nI_l (show t < 2 ^ 31 by omega), lN_mul, nI_1, if_true, if_false, not_true_eq_false, not_false_eq_true, Bool.false_eq_true, Bool.true_eq_false, reduceIte, ite_true, ite_false]
    rw [below_Y w κ Y b hn ht part c (i + 1) (u * t) f (by omega) (by omega), Nat.mul_assoc, Nat.pow_succ, Nat.mul_comm t]
theorem m_snow (w : aW) (Y : aY) {κ : aK} (hW : WF κ) (hs : Y.1 0 = 0) (x n t part : Int32) : ∃ Y', Yk Y Y' ∧ f_X4_snow 50 x n t part (putY w κ Y) = some (snowK x n t part κ, putY w κ Y') := by
  have hk9 := hW.1
  unfold f_X4_snow snowK
  have e1 := p_in32 (x := n) (a := 0) (b := 7) (a' := 0) (b' := 7) rfl rfl
  have e2 := p_in32 (x := t) (a := 2) (b := 20) (a' := 2) (b' := 20) rfl rfl
  have e3 := p_in32 (x := part) (a := 0) (b := 1) (a' := 0) (b' := 1) rfl rfl
  by_cases h1 : inR x 0 (nI κ.1 - 1) = true
  · by_cases h2 : inR n 0 7 = true
    · by_cases h3 : inR t 2 20 = true
      · by_cases h4 : inR part 0 1 = true
        · obtain ⟨b, hb, rfl⟩ := inB hk9 h1
          obtain ⟨m, hm, rfl⟩ := in7 h2
          obtain ⟨u, hu2, hu, rfl⟩ := in20 h3
          have hp7 := two_pow7 hm
          obtain ⟨Y1, q1, hK, htk⟩ := k_think w (yint Y 1 0) hk9
          have hs1 : Y1.1 0 = 0 := q1.1.1.trans hs
          obtain ⟨Y2, q2, hl⟩ := snowY w hW (b := b) hm hu2 hu (part01 h4) (2 ^ m) 0 0 Y1 a_fuel (by omega) (show 2 ^ m < 1000 by omega) (by omega) hs1 hK
          have hbl := below_Y w κ (yint Y 1 0) (nI b) hm hu part m 0 1 a_fuel (by omega) (show m < 1000 by omega)
          rw [htk, bk_some, Nat.one_mul] at hbl
          refine ⟨Y2, ((Yk.thrown Y 0).trans q1).trans q2, ?_⟩
          simp only [h1, h2, h3, h4, e1, e2, e3, m_isBeast, sF_Y19, gI_Y0, gR_Y1, gR_Y2, gR_Y3, gR_Y4, gR_Y5, gI_Y6, gR_Y7, gR_Y8, gR_Y9, gR_Y10, gI_Y11, gI_Y12, gR_Y13, gR_Y14, gR_Y15, gR_Y16, gR_Y17, gR_Y18, gI_Y19, gI_Y20, gI_Y21, gI_Y22, gI_Y23, gR_Y24, gR_Y25, gR_Y26, gR_Y27, gR_Y28, gI_Y29, gI_Y30, gI_Y31, gR_Y33, gR_Y34, gI_Y35, gR_Y36, cV_Y, bk_some, bind_some', zb_0, zb_1, zb_or, cc_or, kset_1, kset_21, kint_1, kint_21, kint_22, putY_moved, ix_nI (show b < 2 ^ 31 by omega), ix_nI (show m < 2 ^ 31 by omega), ix_nI (show u < 2 ^ 31 by omega), if_true, if_false, not_true_eq_false, not_false_eq_true, Bool.false_eq_true, Bool.true_eq_false, reduceIte, ite_true, ite_false]
          exact hbl.trans hl
        · have h4 := Bool.eq_false_iff.mpr h4
          refine ⟨yint Y 1 0, Yk.thrown Y 0, ?_⟩
          simp only [h1, h2, h3, h4, e1, e2, e3, m_isBeast, sF_Y19, gI_Y0, gR_Y1, gR_Y2, gR_Y3, gR_Y4, gR_Y5, gI_Y6, gR_Y7, gR_Y8, gR_Y9, gR_Y10, gI_Y11, gI_Y12, gR_Y13, gR_Y14, gR_Y15, gR_Y16, gR_Y17, gR_Y18, gI_Y19, gI_Y20, gI_Y21, gI_Y22, gI_Y23, gR_Y24, gR_Y25, gR_Y26, gR_Y27, gR_Y28, gI_Y29, gI_Y30, gI_Y31, gR_Y33, gR_Y34, gI_Y35, gR_Y36, cV_Y, bk_some, bind_some', zb_0, zb_1, zb_or, cc_or, kset_1, kset_21, kint_1, kint_21, kint_22, putY_moved, if_true, if_false, not_true_eq_false, not_false_eq_true, Bool.false_eq_true, Bool.true_eq_false, reduceIte, ite_true, ite_false]
      · have h3 := Bool.eq_false_iff.mpr h3
        refine ⟨yint Y 1 0, Yk.thrown Y 0, ?_⟩
        simp only [h1, h2, h3, e1, e2, m_isBeast, sF_Y19, gI_Y0, gR_Y1, gR_Y2, gR_Y3, gR_Y4, gR_Y5, gI_Y6, gR_Y7, gR_Y8, gR_Y9, gR_Y10, gI_Y11, gI_Y12, gR_Y13, gR_Y14, gR_Y15, gR_Y16, gR_Y17, gR_Y18, gI_Y19, gI_Y20, gI_Y21, gI_Y22, gI_Y23, gR_Y24, gR_Y25, gR_Y26, gR_Y27, gR_Y28, gI_Y29, gI_Y30, gI_Y31, gR_Y33, gR_Y34, gI_Y35, gR_Y36, cV_Y, bk_some, bind_some', zb_0, zb_1, zb_or, cc_or, kset_1, kset_21, kint_1, kint_21, kint_22, putY_moved, if_true, if_false, not_true_eq_false, not_false_eq_true, Bool.false_eq_true, Bool.true_eq_false, reduceIte, ite_true, ite_false]
    · have h2 := Bool.eq_false_iff.mpr h2
      refine ⟨yint Y 1 0, Yk.thrown Y 0, ?_⟩
      simp only [h1, h2, e1, m_isBeast, sF_Y19, gI_Y0, gR_Y1, gR_Y2, gR_Y3, gR_Y4, gR_Y5, gI_Y6, gR_Y7, gR_Y8, gR_Y9, gR_Y10, gI_Y11, gI_Y12, gR_Y13, gR_Y14, gR_Y15, gR_Y16, gR_Y17, gR_Y18, gI_Y19, gI_Y20, gI_Y21, gI_Y22, gI_Y23, gR_Y24, gR_Y25, gR_Y26, gR_Y27, gR_Y28, gI_Y29, gI_Y30, gI_Y31, gR_Y33, gR_Y34, gI_Y35, gR_Y36, cV_Y, bk_some, bind_some', zb_0, zb_1, zb_or, cc_or, kset_1, kset_21, kint_1, kint_21, kint_22, putY_moved, if_true, if_false, not_true_eq_false, not_false_eq_true, Bool.false_eq_true, Bool.true_eq_false, reduceIte, ite_true, ite_false]
  · have h1 := Bool.eq_false_iff.mpr h1
    refine ⟨yint Y 1 0, Yk.thrown Y 0, ?_⟩
    simp only [h1, m_isBeast, sF_Y19, gI_Y0, gR_Y1, gR_Y2, gR_Y3, gR_Y4, gR_Y5, gI_Y6, gR_Y7, gR_Y8, gR_Y9, gR_Y10, gI_Y11, gI_Y12, gR_Y13, gR_Y14, gR_Y15, gR_Y16, gR_Y17, gR_Y18, gI_Y19, gI_Y20, gI_Y21, gI_Y22, gI_Y23, gR_Y24, gR_Y25, gR_Y26, gR_Y27, gR_Y28, gI_Y29, gI_Y30, gI_Y31, gR_Y33, gR_Y34, gI_Y35, gR_Y36, cV_Y, bk_some, bind_some', zb_0, zb_1, zb_or, cc_or, kset_1, kset_21, kint_1, kint_21, kint_22, putY_moved, if_true, if_false, not_true_eq_false, not_false_eq_true, Bool.false_eq_true, Bool.true_eq_false, reduceIte, ite_true, ite_false]
