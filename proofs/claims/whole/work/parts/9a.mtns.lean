/-! PURE: mountains by seeds, at both sides (fk_and, fk_mask begin as the kit's to-paste family) -/
theorem fk_and (a b : Nat) : nI a &&& nI b = nI (a &&& b) := by
  apply Int32.toBitVec_inj.1
  show BitVec.ofNat 32 a &&& BitVec.ofNat 32 b = BitVec.ofNat 32 (a &&& b)
  apply BitVec.eq_of_getLsbD_eq
  intro i hi
  simp [hi]
theorem fk_mask (n k : Nat) : nI n &&& nI (2 ^ k - 1) = nI (n % 2 ^ k) := by rw [fk_and, Nat.and_two_pow_sub_one_eq_mod]
theorem any_nI (z : Int32) : ∃ n, z = nI n := ⟨z.toBitVec.toNat, Int32.toBitVec_inj.mp (by
  show z.toBitVec = BitVec.ofNat 32 z.toBitVec.toNat
  simp)⟩
def nxtI (z : Int32) : Int32 := z * 1103515245 + 12345
def drwI (z : Int32) : Int32 := (z &&& 2147483647) / 65536 - (z &&& 2147483647) / 65536 / 16 * 16
theorem drw_rng (z : Int32) : ∃ x, x ≤ 15 ∧ drwI z = nI x := by
  obtain ⟨n, rfl⟩ := any_nI z
  have h1 : nI n &&& 2147483647 = nI (n % 2 ^ 31) := fk_mask n 31
  have hlt : n % 2 ^ 31 < 2 ^ 31 := Nat.mod_lt _ (by decide)
  have h2 : nI (n % 2 ^ 31) / 65536 = nI (n % 2 ^ 31 / 65536) := pk_div hlt (by decide) (by decide)
  have hq : n % 2 ^ 31 / 65536 < 2 ^ 31 := Nat.lt_of_le_of_lt (Nat.div_le_self _ _) hlt
  have h3 : nI (n % 2 ^ 31 / 65536) - nI (n % 2 ^ 31 / 65536) / 16 * 16 = nI (n % 2 ^ 31 / 65536 % 16) := pk_rem hq (by decide) (by decide)
  refine ⟨n % 2 ^ 31 / 65536 % 16, ?_, ?_⟩
  · have := Nat.mod_lt (n % 2 ^ 31 / 65536) (y := 16) (by decide)
    omega
  · unfold drwI
    rw [h1, h2, h3]
theorem nxt_e (z : Int32) : z * 1103515245 + 12345 = nxtI z := by unfold nxtI; exact Eq.refl _
theorem drw_e (z : Int32) : (z &&& 2147483647) / 65536 - (z &&& 2147483647) / 65536 / 16 * 16 = drwI z := by unfold drwI; exact Eq.refl _
theorem p_drawn (z : Int32) (w : aW) : f_X3_drawn z 16 w = some (drwI z, w) := by
  unfold f_X3_drawn
  rw [if_neg (by decide), if_neg (by decide), drw_e]
theorem yint_at (y : aY) (a : Nat) (x : Int32) : (yint y a x).1 a = x := by rw [yint_1, if_pos rfl]
theorem m_draw (w : aW) (κ : aK) (Y : aY) : f_X4_drawBelow 50 16 (putY w κ Y) = some (drwI (nxtI (Y.1 9)), putY w κ (yint Y 9 (nxtI (Y.1 9)))) := by
  unfold f_X4_drawBelow
  simp only [gI_Y0, gR_Y1, gR_Y2, gR_Y3, gR_Y4, gR_Y5, gI_Y6, gR_Y7, gR_Y8, gR_Y9, gR_Y10, gI_Y11, gI_Y12, gR_Y13, gR_Y14, gR_Y15, gR_Y16, gR_Y17, gR_Y18, gI_Y19, gI_Y20, gI_Y21, gI_Y22, gI_Y23, gR_Y24, gR_Y25, gR_Y26, gR_Y27, gR_Y28, gI_Y29, gI_Y30, gI_Y31, gR_Y33, gR_Y34, gI_Y35, gR_Y36, cV_Y, bk_some, bind_some', zb_0, zb_1, zb_or, cc_or, kset_1, kset_21, kint_1, kint_21, kint_22, putY_moved, sF_Y35, yint_at, nxt_e, drw_e, show ¬ (16 : Int32) = 0 by decide, if_true, if_false, not_true_eq_false, not_false_eq_true, Bool.false_eq_true, Bool.true_eq_false, reduceIte, ite_true, ite_false]
def drawF (κ0 : aK) (b : Nat) (s : Int32 × aK) : Int32 × aK := if bitB (κ0.2.1 1) (nI b) = true then (nxtI s.1, kset s.2 2 b (drwI (nxtI s.1))) else s
def drawnK (κ0 : aK) (z : Int32) : Int32 × aK := itr (drawF κ0) 0 9 (z, κ0)
def mtF (κ : aK) (_ : Nat) (s : Int32 × Int32 × Int32) : Int32 × Int32 × Int32 := ((drawnK κ s.1).1, s.2.1 + popI (calledAnyK (daysK 12 (drawnK κ s.1).2)), s.2.2 + (griefAllK (daysK 12 (drawnK κ s.1).2) - griefAllK κ))
theorem draw_WF {κ0 : aK} {b : Nat} {s : Int32 × aK} (h : WF s.2) : WF (drawF κ0 b s).2 := by
  unfold drawF
  split
  · obtain ⟨x, hx, e⟩ := drw_rng (nxtI s.1)
    rw [e]
    exact h.place hx
  · exact h
theorem draw_int {κ0 : aK} {b : Nat} {s : Int32 × aK} : (drawF κ0 b s).2.2.1 = s.2.2.1 ∧ (drawF κ0 b s).2.1 = s.2.1 := by
  unfold drawF
  split <;> exact ⟨rfl, rfl⟩
theorem pop_bc (x : Int32) (w : aW) : f_J6_bitCount_0f7a4 x w = some (popI x, w) := Eq.trans (p_bitCount x w) rfl
theorem mtX_end0 (w : aW) {X : aX} (a1 a2 a3 p g z : Int32) (m : Nat) (k33 : Int32 → Int32 → Int32 → Int32 → aW → Option (Int32 × aW)) (k : Int32 → Int32 → Int32 → Int32 → Int32 → aW → Option (Int32 × aW)) (κ D : aK) (hpd : f_X0_passDays 11 12 (putX w (xmind X κ)) = some ((), putX w (xmind X D))) : c_X3_mountains_46 0 a1 a2 a3 k33 k z p g (nI m) (nI 9) (putX w (xmind X κ)) = k33 z (p + popI (calledAnyK D)) (g + (griefAllK D - griefAllK X.1)) (nI (m + 1)) (putX w (xmind X D)) := by
  simp only [c_X3_mountains_46, show (9 : Int32) ≤ nI 9 by decide, gR_X0, gR_X1, gR_X2, gI_X3, gR_X4, gR_X5, gR_X6, cV_X, x_think, xmind_1, xmind_0, xmind_2, xnow_0, xnow_1, xnow_2, bk_some, bind_some', zb_0, zb_1, zb_or, cc_or, T_cV, T_gI0, T_gI1, T_gI2, T_gI3, T_gR4, T_gR5, T_gR6, T_gR7, T_gR8, T_gR9, T_gR10, T_gR11, T_gR12, T_hasBeast, T_isAlive, T_calledBy, T_calledByAnybody, T_needTogether, T_workTogether, T_freeOnes, N_cV, N_gI0, N_gI1, N_gI2, N_gI3, N_gR4, N_gR5, N_gR6, N_gR7, N_gR8, N_gR9, N_gR10, N_gR11, N_gR12, N_hasBeast, N_isAlive, N_calledBy, N_calledByAnybody, N_needTogether, N_workTogether, N_freeOnes, hpd, pop_bc, T_griefOfAll, N_griefOfAll, nI_1, if_true, if_false, not_true_eq_false, not_false_eq_true, Bool.false_eq_true, Bool.true_eq_false, reduceIte, ite_true, ite_false]
theorem T_days12 (w : aW) {X : aX} {κ : aK} (hW : WF κ) : f_X0_passDays 11 12 (putX w (xmind X κ)) = some ((), putX w (xmind X (daysK 12 κ))) := T_passDays w (X := xmind X κ) hW (n := 12) (by decide)
theorem mtX_end (w : aW) {X : aX} (a1 a2 a3 p g z : Int32) (m : Nat) (k33 : Int32 → Int32 → Int32 → Int32 → aW → Option (Int32 × aW)) (k : Int32 → Int32 → Int32 → Int32 → Int32 → aW → Option (Int32 × aW)) {κ : aK} (hW : WF κ) : c_X3_mountains_46 0 a1 a2 a3 k33 k z p g (nI m) (nI 9) (putX w (xmind X κ)) = k33 z (p + popI (calledAnyK (daysK 12 κ))) (g + (griefAllK (daysK 12 κ) - griefAllK X.1)) (nI (m + 1)) (putX w (xmind X (daysK 12 κ))) :=
  mtX_end0 w a1 a2 a3 p g z m k33 k κ (daysK 12 κ) (T_days12 w hW)
theorem mtX_no (w : aW) {X : aX} (a1 a2 a3 p g z : Int32) (m : Nat) (k33 : Int32 → Int32 → Int32 → Int32 → aW → Option (Int32 × aW)) (k : Int32 → Int32 → Int32 → Int32 → Int32 → aW → Option (Int32 × aW)) (κ : aK) {b : Nat} (hb : b < 9) (h : bitB (X.1.2.1 1) (nI b) = false) : c_X3_mountains_46 0 a1 a2 a3 k33 k z p g (nI m) (nI b) (putX w (xmind X κ)) = k z p g (nI m) (nI (b + 1)) (putX w (xmind X κ)) := by
  simp only [c_X3_mountains_46, le_9 hb, gR_X0, gR_X1, gR_X2, gI_X3, gR_X4, gR_X5, gR_X6, cV_X, x_think, xmind_1, xmind_0, xmind_2, xnow_0, xnow_1, xnow_2, bk_some, bind_some', zb_0, zb_1, zb_or, cc_or, N_cV, N_gI0, N_gI1, N_gI2, N_gI3, N_gR4, N_gR5, N_gR6, N_gR7, N_gR8, N_gR9, N_gR10, N_gR11, N_gR12, N_hasBeast, N_isAlive, N_calledBy, N_calledByAnybody, N_needTogether, N_workTogether, N_freeOnes, h, nI_1, if_true, if_false, not_true_eq_false, not_false_eq_true, Bool.false_eq_true, Bool.true_eq_false, reduceIte, ite_true, ite_false]
theorem mtX_yes (w : aW) {X : aX} (a1 a2 a3 p g z : Int32) (m : Nat) (k33 : Int32 → Int32 → Int32 → Int32 → aW → Option (Int32 × aW)) (k : Int32 → Int32 → Int32 → Int32 → Int32 → aW → Option (Int32 × aW)) (κ : aK) {b : Nat} (hb : b < 9) (h : bitB (X.1.2.1 1) (nI b) = true) : c_X3_mountains_46 0 a1 a2 a3 k33 k z p g (nI m) (nI b) (putX w (xmind X κ)) = k (nxtI z) p g (nI m) (nI (b + 1)) (putX w (xmind X (kset κ 2 b (drwI (nxtI z))))) := by
  have hs := T_sA w (xmind X κ) 2 (by decide) (i := b) hb (drwI (nxtI z))
  simp only [Nat.reduceAdd, xmind_1, xmind_2] at hs
  simp only [c_X3_mountains_46, le_9 hb, gR_X0, gR_X1, gR_X2, gI_X3, gR_X4, gR_X5, gR_X6, cV_X, x_think, xmind_1, xmind_0, xmind_2, xnow_0, xnow_1, xnow_2, bk_some, bind_some', zb_0, zb_1, zb_or, cc_or, N_cV, N_gI0, N_gI1, N_gI2, N_gI3, N_gR4, N_gR5, N_gR6, N_gR7, N_gR8, N_gR9, N_gR10, N_gR11, N_gR12, N_hasBeast, N_isAlive, N_calledBy, N_calledByAnybody, N_needTogether, N_workTogether, N_freeOnes, T_cV, T_gI0, T_gI1, T_gI2, T_gI3, T_gR4, T_gR5, T_gR6, T_gR7, T_gR8, T_gR9, T_gR10, T_gR11, T_gR12, T_hasBeast, T_isAlive, T_calledBy, T_calledByAnybody, T_needTogether, T_workTogether, T_freeOnes, h, nxt_e, p_drawn, hs, nI_1, if_true, if_false, not_true_eq_false, not_false_eq_true, Bool.false_eq_true, Bool.true_eq_false, reduceIte, ite_true, ite_false]
theorem draw_yes {κ0 : aK} {b : Nat} (h : bitB (κ0.2.1 1) (nI b) = true) (s : Int32 × aK) : drawF κ0 b s = (nxtI s.1, kset s.2 2 b (drwI (nxtI s.1))) := by
  unfold drawF
  rw [if_pos h]
theorem draw_no {κ0 : aK} {b : Nat} (h : bitB (κ0.2.1 1) (nI b) = false) (s : Int32 × aK) : drawF κ0 b s = s := by
  unfold drawF
  rw [if_neg (by rw [h]; decide)]
theorem itr_s {σ : Type} (F : Nat → σ → σ) (i m : Nat) (s : σ) : itr F i (m + 1) s = itr F (i + 1) m (F i s) := rfl
theorem mtX_in (w : aW) {X : aX} (a1 a2 a3 p g : Int32) (m : Nat) (k33 : Int32 → Int32 → Int32 → Int32 → aW → Option (Int32 × aW)) : ∀ (c b : Nat) (z : Int32) (κ : aK) (r : Int32 × aK) (f : Nat), b + c = 9 → c < f → WF κ → itr (drawF X.1) b c (z, κ) = r → loop6 (c_X3_mountains_46 0 a1 a2 a3 k33) f z p g (nI m) (nI b) (putX w (xmind X κ)) = k33 r.1 (p + popI (calledAnyK (daysK 12 r.2))) (g + (griefAllK (daysK 12 r.2) - griefAllK X.1)) (nI (m + 1)) (putX w (xmind X (daysK 12 r.2)))
  | 0, b, z, κ, r, f + 1, hb, _, hW, hr => by
    have : b = 9 := by omega
    subst this
    have hr : (z, κ) = r := hr
    subst hr
    rw [loop6_s, mtX_end w a1 a2 a3 p g z m k33 _ hW]
  | c + 1, b, z, κ, r, f + 1, hb, hf, hW, hr => by
    have hb9 : b < 9 := by omega
    rw [loop6_s]
    rw [itr_s] at hr
    by_cases h : bitB (X.1.2.1 1) (nI b) = true
    · rw [draw_yes h] at hr
      rw [mtX_yes w a1 a2 a3 p g z m k33 _ κ hb9 h]
      have hW' : WF (kset κ 2 b (drwI (nxtI z))) := by
        obtain ⟨x, hx, e⟩ := drw_rng (nxtI z)
        rw [e]
        exact hW.place hx
      exact mtX_in w a1 a2 a3 p g m k33 c (b + 1) (nxtI z) (kset κ 2 b (drwI (nxtI z))) r f (by omega) (by omega) hW' hr
    · have h := Bool.eq_false_iff.mpr h
      rw [draw_no h] at hr
      rw [mtX_no w a1 a2 a3 p g z m k33 _ κ hb9 h]
      exact mtX_in w a1 a2 a3 p g m k33 c (b + 1) z κ r f (by omega) (by omega) hW hr
theorem loop5_s' {α0 α1 α2 α3 β : Type} (B : (α0 → α1 → α2 → α3 → aW → Option β) → α0 → α1 → α2 → α3 → aW → Option β) (n : Nat) : loop5 B (n + 1) = B (loop5 B n) := rfl
theorem mtX (w : aW) {X : aX} (hW : WF X.1) (a2 a3 : Int32) {N : Nat} (hN : N ≤ 20) : ∀ (c m : Nat) (s : Int32 × Int32 × Int32) (μ : aK) (f : Nat), m + c = N → c < f → ∃ μ', loop5 (c_X3_mountains_33 0 (nI N) a2 a3) f s.1 s.2.1 s.2.2 (nI m) (putX w (xmind X μ)) = some (if a3 = 0 then (itr (mtF X.1) m c s).2.1 else (itr (mtF X.1) m c s).2.2, putX w (xmind X μ'))
  | 0, m, s, μ, f + 1, hm, _ => by
    have : m = N := by omega
    subst this
    refine ⟨μ, ?_⟩
    rw [loop5_s']
    show _ = some (if a3 = 0 then s.2.1 else s.2.2, _)
    by_cases h : a3 = 0
    · simp only [c_X3_mountains_33, Int32.le_refl, h, if_true, if_false, not_true_eq_false, not_false_eq_true, Bool.false_eq_true, Bool.true_eq_false, reduceIte, ite_true, ite_false]
    · simp only [c_X3_mountains_33, Int32.le_refl, h, if_true, if_false, not_true_eq_false, not_false_eq_true, Bool.false_eq_true, Bool.true_eq_false, reduceIte, ite_true, ite_false]
  | c + 1, m, s, μ, f + 1, hm, hf => by
    have hlt : ¬ nI N ≤ nI m := le_nIb (by omega) (by omega) (by omega)
    obtain ⟨μ', h'⟩ := mtX w hW a2 a3 hN c (m + 1) (mtF X.1 m s) (daysK 12 (drawnK X.1 s.1).2) f (by omega) (by omega)
    refine ⟨μ', ?_⟩
    rw [loop5_s']
    have hin := mtX_in w (X := X) (nI N) a2 a3 s.2.1 s.2.2 m (loop5 (c_X3_mountains_33 0 (nI N) a2 a3) f) 9 0 s.1 X.1 (drawnK X.1 s.1) a_fuel rfl (by decide) hW rfl
    simp only [c_X3_mountains_33, hlt, gR_X0, gR_X1, gR_X2, gI_X3, gR_X4, gR_X5, gR_X6, cV_X, x_think, xmind_1, xmind_0, xmind_2, xnow_0, xnow_1, xnow_2, bk_some, bind_some', zb_0, zb_1, zb_or, cc_or, if_true, if_false, not_true_eq_false, not_false_eq_true, Bool.false_eq_true, Bool.true_eq_false, reduceIte, ite_true, ite_false]
    exact hin.trans h'
def mtnsK (n z k : Int32) (κ : aK) : Int32 := if inR n 1 20 = true then (if inR k 0 1 = true then (if k = 0 then (itr (mtF κ) 0 (ix n) (z, 0, 0)).2.1 else (itr (mtF κ) 0 (ix n) (z, 0, 0)).2.2) else -1) else -1
theorem in120 {x : Int32} (h : inR x 1 20 = true) : ∃ n, n ≤ 20 ∧ x = nI n := by
  unfold inR at h
  rw [Bool.and_eq_true, decide_eq_true_eq, decide_eq_true_eq] at h
  refine inR_nI (n := 20) (by decide) ?_
  unfold inR
  rw [decide_eq_true (Int32.le_trans (by decide) h.1), decide_eq_true (show x ≤ nI 20 from h.2)]
  rfl
theorem x_mountains (w : aW) {X : aX} (hW : WF X.1) (n z k : Int32) : ∃ μ, f_X3_mountains 0 n z k (putX w X) = some (mtnsK n z k X.1, putX w (xmind X μ)) := by
  unfold f_X3_mountains mtnsK
  by_cases h1 : inR n 1 20 = true
  · by_cases h2 : inR k 0 1 = true
    · obtain ⟨N, hN, rfl⟩ := in120 h1
      obtain ⟨μ, hl⟩ := mtX w hW z k hN N 0 (z, 0, 0) X.2.1 a_fuel (by omega) (show N < 1000 by omega)
      refine ⟨μ, ?_⟩
      simp only [h1, h2, p_within, gR_X0, gR_X1, gR_X2, gI_X3, gR_X4, gR_X5, gR_X6, cV_X, x_think, xmind_1, xmind_0, xmind_2, xnow_0, xnow_1, xnow_2, bk_some, bind_some', zb_0, zb_1, zb_or, cc_or, ix_nI (show N < 2 ^ 31 by omega), if_true, if_false, not_true_eq_false, not_false_eq_true, Bool.false_eq_true, Bool.true_eq_false, reduceIte, ite_true, ite_false]
      exact hl
    · have h2 := Bool.eq_false_iff.mpr h2
      exact ⟨X.2.1, by simp only [h1, h2, gR_X0, gR_X1, gR_X2, gI_X3, gR_X4, gR_X5, gR_X6, cV_X, x_think, xmind_1, xmind_0, xmind_2, xnow_0, xnow_1, xnow_2, bk_some, bind_some', zb_0, zb_1, zb_or, cc_or, p_within, if_true, if_false, not_true_eq_false, not_false_eq_true, Bool.false_eq_true, Bool.true_eq_false, reduceIte, ite_true, ite_false]; rfl⟩
  · have h1 := Bool.eq_false_iff.mpr h1
    exact ⟨X.2.1, by simp only [h1, gR_X0, gR_X1, gR_X2, gI_X3, gR_X4, gR_X5, gR_X6, cV_X, x_think, xmind_1, xmind_0, xmind_2, xnow_0, xnow_1, xnow_2, bk_some, bind_some', zb_0, zb_1, zb_or, cc_or, p_within, if_true, if_false, not_true_eq_false, not_false_eq_true, Bool.false_eq_true, Bool.true_eq_false, reduceIte, ite_true, ite_false]; rfl⟩
theorem draw_many {κ : aK} (hW : WF κ) (z : Int32) : drawnK κ z = itr (drawF κ) 0 κ.1 (z, κ) := by
  unfold drawnK
  refine itr_many hW.1 (z, κ) (fun i h1 h2 => ?_)
  unfold drawF
  rw [if_neg (by rw [(hW.2.2.2.2 i h1 h2).2]; decide)]
theorem kept_9 {Y : aY} {κ : aK} (x : Int32) (h : Kept Y 8 κ) : Kept (yint Y 9 x) 8 κ := h
theorem yk_9 (Y : aY) (x : Int32) : Yk Y (yint Y 9 x) := ⟨⟨rfl, rfl, fun _ _ => rfl, rfl⟩, rfl⟩
theorem any_lt (κ : aK) : ∃ a, a < 512 ∧ calledAnyK κ = nI a := msk_lt _ (by decide)
theorem mtY_yes (w : aW) (a1 a2 a3 p g : Int32) (m : Nat) (k50 : Int32 → Int32 → Int32 → aW → Option (Int32 × aW)) (k : Int32 → Int32 → Int32 → Int32 → aW → Option (Int32 × aW)) {κ : aK} (hk : κ.1 ≤ 9) (Y : aY) {z : Int32} (h9 : Y.1 9 = z) {b : Nat} (hb : b < κ.1) (h : bitB (κ.2.1 1) (nI b) = true) : c_X4_mountains_59 50 a1 a2 a3 k50 k p g (nI m) (nI b) (putY w κ Y) = k p g (nI m) (nI (b + 1)) (putY w (kset κ 2 b (drwI (nxtI z))) (yint Y 9 (nxtI z))) := by
  have hmd := m_draw w κ Y
  rw [h9] at hmd
  simp only [c_X4_mountains_59, gI_Y0, gR_Y1, gR_Y2, gR_Y3, gR_Y4, gR_Y5, gI_Y6, gR_Y7, gR_Y8, gR_Y9, gR_Y10, gI_Y11, gI_Y12, gR_Y13, gR_Y14, gR_Y15, gR_Y16, gR_Y17, gR_Y18, gI_Y19, gI_Y20, gI_Y21, gI_Y22, gI_Y23, gR_Y24, gR_Y25, gR_Y26, gR_Y27, gR_Y28, gI_Y29, gI_Y30, gI_Y31, gR_Y33, gR_Y34, gI_Y35, gR_Y36, cV_Y, bk_some, bind_some', zb_0, zb_1, zb_or, cc_or, kset_1, kset_21, kint_1, kint_21, kint_22, putY_moved, lt_9I hb hk, p_hasBit, h, hmd, sA_Y53 w _ hk hb, nI_1, if_true, if_false, not_true_eq_false, not_false_eq_true, Bool.false_eq_true, Bool.true_eq_false, reduceIte, ite_true, ite_false]
theorem mtY_no (w : aW) (a1 a2 a3 p g : Int32) (m : Nat) (k50 : Int32 → Int32 → Int32 → aW → Option (Int32 × aW)) (k : Int32 → Int32 → Int32 → Int32 → aW → Option (Int32 × aW)) {κ : aK} (hk : κ.1 ≤ 9) (Y : aY) {b : Nat} (hb : b < κ.1) (h : bitB (κ.2.1 1) (nI b) = false) : c_X4_mountains_59 50 a1 a2 a3 k50 k p g (nI m) (nI b) (putY w κ Y) = k p g (nI m) (nI (b + 1)) (putY w κ Y) := by
  simp only [c_X4_mountains_59, gI_Y0, gR_Y1, gR_Y2, gR_Y3, gR_Y4, gR_Y5, gI_Y6, gR_Y7, gR_Y8, gR_Y9, gR_Y10, gI_Y11, gI_Y12, gR_Y13, gR_Y14, gR_Y15, gR_Y16, gR_Y17, gR_Y18, gI_Y19, gI_Y20, gI_Y21, gI_Y22, gI_Y23, gR_Y24, gR_Y25, gR_Y26, gR_Y27, gR_Y28, gI_Y29, gI_Y30, gI_Y31, gR_Y33, gR_Y34, gI_Y35, gR_Y36, cV_Y, bk_some, bind_some', zb_0, zb_1, zb_or, cc_or, kset_1, kset_21, kint_1, kint_21, kint_22, putY_moved, lt_9I hb hk, p_hasBit, h, gA_Y53 w Y hk hb, sA_Y53 w Y hk hb, kset_self, nI_1, if_true, if_false, not_true_eq_false, not_false_eq_true, Bool.false_eq_true, Bool.true_eq_false, reduceIte, ite_true, ite_false]
theorem mtY_end (w : aW) (a1 a2 a3 p g : Int32) (m : Nat) (k50 : Int32 → Int32 → Int32 → aW → Option (Int32 × aW)) (k : Int32 → Int32 → Int32 → Int32 → aW → Option (Int32 × aW)) (κ κ0 D : aK) (Y Y2 : aY) (hWd : WF D) (h1 : κ.1 = κ0.1) (hgd : f_X4_goDays 50 12 (putY w κ Y) = some ((), putY w D Y)) (ha : f_X4_again 50 (putY w D Y) = some ((), putY w κ0 Y2)) : c_X4_mountains_59 50 a1 a2 a3 k50 k p g (nI m) (nI κ0.1) (putY w κ Y) = k50 (p + (if a3 = 0 then popI (calledAnyK D) else griefAllK D - g)) g (nI (m + 1)) (putY w κ0 Y2) := by
  by_cases h : a3 = 0
  · simp only [c_X4_mountains_59, gI_Y0, gR_Y1, gR_Y2, gR_Y3, gR_Y4, gR_Y5, gI_Y6, gR_Y7, gR_Y8, gR_Y9, gR_Y10, gI_Y11, gI_Y12, gR_Y13, gR_Y14, gR_Y15, gR_Y16, gR_Y17, gR_Y18, gI_Y19, gI_Y20, gI_Y21, gI_Y22, gI_Y23, gR_Y24, gR_Y25, gR_Y26, gR_Y27, gR_Y28, gI_Y29, gI_Y30, gI_Y31, gR_Y33, gR_Y34, gI_Y35, gR_Y36, cV_Y, bk_some, bind_some', zb_0, zb_1, zb_or, cc_or, kset_1, kset_21, kint_1, kint_21, kint_22, putY_moved, h1, Int32.le_refl, hgd, h, m_calledAll w Y hWd, m_onesOf' (any_lt D), ha, nI_1, if_true, if_false, not_true_eq_false, not_false_eq_true, Bool.false_eq_true, Bool.true_eq_false, reduceIte, ite_true, ite_false]
  · simp only [c_X4_mountains_59, gI_Y0, gR_Y1, gR_Y2, gR_Y3, gR_Y4, gR_Y5, gI_Y6, gR_Y7, gR_Y8, gR_Y9, gR_Y10, gI_Y11, gI_Y12, gR_Y13, gR_Y14, gR_Y15, gR_Y16, gR_Y17, gR_Y18, gI_Y19, gI_Y20, gI_Y21, gI_Y22, gI_Y23, gR_Y24, gR_Y25, gR_Y26, gR_Y27, gR_Y28, gI_Y29, gI_Y30, gI_Y31, gR_Y33, gR_Y34, gI_Y35, gR_Y36, cV_Y, bk_some, bind_some', zb_0, zb_1, zb_or, cc_or, kset_1, kset_21, kint_1, kint_21, kint_22, putY_moved, h1, Int32.le_refl, hgd, h, m_allGrief, ha, nI_1, if_true, if_false, not_true_eq_false, not_false_eq_true, Bool.false_eq_true, Bool.true_eq_false, reduceIte, ite_true, ite_false]
theorem m_days12 (w : aW) {κ : aK} (hW : WF κ) (Y : aY) (h0 : Y.1 0 = 0) : f_X4_goDays 50 12 (putY w κ Y) = some ((), putY w (daysK 12 κ) Y) := m_goDays w Y hW h0 (n := 12) (by decide)
theorem mtY_in (w : aW) {κ0 : aK} (hk9 : κ0.1 ≤ 9) (a1 a2 a3 p g : Int32) (m : Nat) (k50 : Int32 → Int32 → Int32 → aW → Option (Int32 × aW)) : ∀ (c b : Nat) (z : Int32) (κ : aK) (r : Int32 × aK) (Y : aY) (f : Nat), b + c = κ0.1 → c < f → WF κ → κ.1 = κ0.1 → κ.2.1 = κ0.2.1 → Y.1 9 = z → Y.1 0 = 0 → Kept Y 8 κ0 → itr (drawF κ0) b c (z, κ) = r → ∃ Y', Yk Y Y' ∧ Kept Y' 8 κ0 ∧ Y'.1 9 = r.1 ∧ loop5 (c_X4_mountains_59 50 a1 a2 a3 k50) f p g (nI m) (nI b) (putY w κ Y) = k50 (p + (if a3 = 0 then popI (calledAnyK (daysK 12 r.2)) else griefAllK (daysK 12 r.2) - g)) g (nI (m + 1)) (putY w κ0 Y')
  | 0, b, z, κ, r, Y, f + 1, hb, _, hW, h1, h2, h9, h0, hK, hr => by
    have : b = κ0.1 := by omega
    subst this
    have hr : (z, κ) = r := hr
    subst hr
    obtain ⟨Y2, e2, hs2, -, hK2, ha⟩ := m_again2 w (daysK 12 κ) Y hk9 hK
    refine ⟨Y2, e2, hK2, (hs2 9 (by decide) (by decide) (by decide)).trans h9, ?_⟩
    rw [loop5_s']
    exact mtY_end w a1 a2 a3 p g m k50 _ κ κ0 (daysK 12 κ) Y Y2 (days_WF hW 12) h1 (m_days12 w hW Y h0) ha
  | c + 1, b, z, κ, r, Y, f + 1, hb, hf, hW, h1, h2, h9, h0, hK, hr => by
    have hbκ : b < κ.1 := by omega
    have hs9 := hW.1
    rw [loop5_s']
    rw [itr_s] at hr
    by_cases h : bitB (κ0.2.1 1) (nI b) = true
    · rw [draw_yes h] at hr
      have h' : bitB (κ.2.1 1) (nI b) = true := by rw [h2]; exact h
      have hW' : WF (kset κ 2 b (drwI (nxtI z))) := by
        obtain ⟨x, hx, e⟩ := drw_rng (nxtI z)
        rw [e]
        exact hW.place hx
      obtain ⟨Y', e', hK', q9, hl⟩ := mtY_in w hk9 a1 a2 a3 p g m k50 c (b + 1) (nxtI z) (kset κ 2 b (drwI (nxtI z))) r (yint Y 9 (nxtI z)) f (by omega) (by omega) hW' h1 h2 (yint_at _ _ _) h0 (kept_9 _ hK) hr
      refine ⟨Y', (yk_9 Y _).trans e', hK', q9, ?_⟩
      rw [mtY_yes w a1 a2 a3 p g m k50 _ hs9 Y h9 hbκ h']
      exact hl
    · have h := Bool.eq_false_iff.mpr h
      rw [draw_no h] at hr
      have h' : bitB (κ.2.1 1) (nI b) = false := by rw [h2]; exact h
      obtain ⟨Y', e', hK', q9, hl⟩ := mtY_in w hk9 a1 a2 a3 p g m k50 c (b + 1) z κ r Y f (by omega) (by omega) hW h1 h2 h9 h0 hK hr
      refine ⟨Y', e', hK', q9, ?_⟩
      rw [mtY_no w a1 a2 a3 p g m k50 _ hs9 Y hbκ h']
      exact hl
theorem mtY (w : aW) {κ : aK} (hW : WF κ) (a2 a3 : Int32) {N : Nat} (hN : N ≤ 20) : ∀ (c m : Nat) (s : Int32 × Int32 × Int32) (Y : aY) (f : Nat), m + c = N → c < f → Y.1 9 = s.1 → Y.1 0 = 0 → Kept Y 8 κ → ∃ Y', Yk Y Y' ∧ loop4 (c_X4_mountains_50 50 (nI N) a2 a3) f (if a3 = 0 then s.2.1 else s.2.2) (griefAllK κ) (nI m) (putY w κ Y) = some (if a3 = 0 then (itr (mtF κ) m c s).2.1 else (itr (mtF κ) m c s).2.2, putY w κ Y')
  | 0, m, s, Y, f + 1, hm, _, _, _, _ => by
    have : m = N := by omega
    subst this
    refine ⟨Y, Yk.refl Y, ?_⟩
    rw [loop4_s]
    simp only [c_X4_mountains_50, Int32.le_refl, if_true, if_false, not_true_eq_false, not_false_eq_true, Bool.false_eq_true, Bool.true_eq_false, reduceIte, ite_true, ite_false]
    rfl
  | c + 1, m, s, Y, f + 1, hm, hf, h9, h0, hK => by
    have hlt : ¬ nI N ≤ nI m := le_nIb (by omega) (by omega) (by omega)
    rw [loop4_s]
    have hk9 := hW.1
    obtain ⟨Y1, e1, hK1, q1, hin⟩ := mtY_in w hk9 (nI N) a2 a3 (if a3 = 0 then s.2.1 else s.2.2) (griefAllK κ) m (loop4 (c_X4_mountains_50 50 (nI N) a2 a3) f) κ.1 0 s.1 κ (drawnK κ s.1) Y a_fuel (by omega) (show κ.1 < 1000 by omega) hW rfl rfl h9 h0 hK (draw_many hW s.1).symm
    have hsum : (if a3 = 0 then s.2.1 else s.2.2) + (if a3 = 0 then popI (calledAnyK (daysK 12 (drawnK κ s.1).2)) else griefAllK (daysK 12 (drawnK κ s.1).2) - griefAllK κ) = if a3 = 0 then (mtF κ m s).2.1 else (mtF κ m s).2.2 := by
      by_cases h : a3 = 0
      · rw [if_pos h, if_pos h, if_pos h]; rfl
      · rw [if_neg h, if_neg h, if_neg h]; rfl
    rw [hsum] at hin
    obtain ⟨Y', e', h'⟩ := mtY w hW a2 a3 hN c (m + 1) (mtF κ m s) Y1 f (by omega) (by omega) q1 (e1.1.1.trans h0) hK1
    refine ⟨Y', e1.trans e', ?_⟩
    simp only [c_X4_mountains_50, hlt, if_true, if_false, not_true_eq_false, not_false_eq_true, Bool.false_eq_true, Bool.true_eq_false, reduceIte, ite_true, ite_false]
    exact hin.trans h'
theorem m_mountains (w : aW) (Y : aY) {κ : aK} (hW : WF κ) (hs : Y.1 0 = 0) (n z k : Int32) : ∃ Y', Yk Y Y' ∧ f_X4_mountains 50 n z k (putY w κ Y) = some (mtnsK n z k κ, putY w κ Y') := by
  have hk9 := hW.1
  unfold f_X4_mountains mtnsK
  have e1 := p_in32 (x := n) (a := 1) (b := 20) (a' := 1) (b' := 20) rfl rfl
  have e2 := p_in32 (x := k) (a := 0) (b := 1) (a' := 0) (b' := 1) rfl rfl
  by_cases h1 : inR n 1 20 = true
  · by_cases h2 : inR k 0 1 = true
    · obtain ⟨N, hN, rfl⟩ := in120 h1
      obtain ⟨Y1, q1, qs, hK, qa, htk⟩ := m_think2 w (yint (yint Y 1 0) 9 z) hk9
      have hq9 : Y1.1 9 = z := (qs 9 (by decide) (by decide) (by decide)).trans (yint_at _ _ _)
      have hs1 : Y1.1 0 = 0 := q1.1.trans hs
      obtain ⟨Y2, q2, hl⟩ := mtY w hW z k hN N 0 (z, 0, 0) Y1 a_fuel (by omega) (show N < 1000 by omega) hq9 hs1 hK
      have q91 : Y1.2.1 9 = Y.2.1 9 := qa 9 (by decide) (by decide) (by decide)
      refine ⟨Y2, Yk.trans ⟨q1, q91⟩ q2, ?_⟩
      have hz0 : (if k = 0 then ((z, (0 : Int32), (0 : Int32)) : Int32 × Int32 × Int32).2.1 else ((z, (0 : Int32), (0 : Int32)) : Int32 × Int32 × Int32).2.2) = 0 := by split <;> rfl
      rw [hz0] at hl
      simp only [h1, h2, e1, e2, sF_Y19, sF_Y35, m_allGrief, gI_Y0, gR_Y1, gR_Y2, gR_Y3, gR_Y4, gR_Y5, gI_Y6, gR_Y7, gR_Y8, gR_Y9, gR_Y10, gI_Y11, gI_Y12, gR_Y13, gR_Y14, gR_Y15, gR_Y16, gR_Y17, gR_Y18, gI_Y19, gI_Y20, gI_Y21, gI_Y22, gI_Y23, gR_Y24, gR_Y25, gR_Y26, gR_Y27, gR_Y28, gI_Y29, gI_Y30, gI_Y31, gR_Y33, gR_Y34, gI_Y35, gR_Y36, cV_Y, bk_some, bind_some', zb_0, zb_1, zb_or, cc_or, kset_1, kset_21, kint_1, kint_21, kint_22, putY_moved, htk, ix_nI (show N < 2 ^ 31 by omega), if_true, if_false, not_true_eq_false, not_false_eq_true, Bool.false_eq_true, Bool.true_eq_false, reduceIte, ite_true, ite_false]
      exact hl
    · have h2 := Bool.eq_false_iff.mpr h2
      refine ⟨yint Y 1 0, Yk.thrown Y 0, ?_⟩
      simp only [h1, h2, e1, e2, sF_Y19, gI_Y0, gR_Y1, gR_Y2, gR_Y3, gR_Y4, gR_Y5, gI_Y6, gR_Y7, gR_Y8, gR_Y9, gR_Y10, gI_Y11, gI_Y12, gR_Y13, gR_Y14, gR_Y15, gR_Y16, gR_Y17, gR_Y18, gI_Y19, gI_Y20, gI_Y21, gI_Y22, gI_Y23, gR_Y24, gR_Y25, gR_Y26, gR_Y27, gR_Y28, gI_Y29, gI_Y30, gI_Y31, gR_Y33, gR_Y34, gI_Y35, gR_Y36, cV_Y, bk_some, bind_some', zb_0, zb_1, zb_or, cc_or, kset_1, kset_21, kint_1, kint_21, kint_22, putY_moved, if_true, if_false, not_true_eq_false, not_false_eq_true, Bool.false_eq_true, Bool.true_eq_false, reduceIte, ite_true, ite_false]
  · have h1 := Bool.eq_false_iff.mpr h1
    refine ⟨yint Y 1 0, Yk.thrown Y 0, ?_⟩
    simp only [h1, e1, sF_Y19, gI_Y0, gR_Y1, gR_Y2, gR_Y3, gR_Y4, gR_Y5, gI_Y6, gR_Y7, gR_Y8, gR_Y9, gR_Y10, gI_Y11, gI_Y12, gR_Y13, gR_Y14, gR_Y15, gR_Y16, gR_Y17, gR_Y18, gI_Y19, gI_Y20, gI_Y21, gI_Y22, gI_Y23, gR_Y24, gR_Y25, gR_Y26, gR_Y27, gR_Y28, gI_Y29, gI_Y30, gI_Y31, gR_Y33, gR_Y34, gI_Y35, gR_Y36, cV_Y, bk_some, bind_some', zb_0, zb_1, zb_or, cc_or, kset_1, kset_21, kint_1, kint_21, kint_22, putY_moved, if_true, if_false, not_true_eq_false, not_false_eq_true, Bool.false_eq_true, Bool.true_eq_false, reduceIte, ite_true, ite_false]
