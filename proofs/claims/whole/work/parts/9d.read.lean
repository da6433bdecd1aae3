/-! PURE: how the model reads a text -/
def hereK (ν : aS) (N q : Nat) : Int32 := if q < N then ν.2 q else -999
def Txt (σ : Nat → aS) (d N : Nat) : Prop := d < 8 ∧ N ≤ 100 ∧ (σ d).1 0 = 2 ∧ (σ d).1 4 = nI N
theorem here_in {ν : aS} {N q : Nat} (hN : N ≤ 100) (he : ν.1 4 = nI N) (hq : q < N) : hereK ν N q = atN ν q := by
  unfold hereK atN
  rw [if_pos hq, at_in hN he hq]
theorem here_out {ν : aS} {N q : Nat} (hN : N ≤ 100) (he : ν.1 4 = nI N) (hq2 : q < 2 ^ 31) (hq : ¬ q < N) : hereK ν N q = -999 ∧ atN ν q = 0 := by
  unfold hereK
  rw [if_neg hq]
  exact ⟨rfl, at_out hN he hq2 (by omega)⟩
theorem here_dg {ν : aS} {N q : Nat} (hN : N ≤ 100) (he : ν.1 4 = nI N) (hq2 : q < 2 ^ 31) : dgB (hereK ν N q) = dgB (atN ν q) := by
  by_cases h : q < N
  · rw [here_in hN he h]
  · obtain ⟨h1, h2⟩ := here_out hN he hq2 h
    rw [h1, h2]; decide
theorem here_59 {ν : aS} {N q : Nat} (hN : N ≤ 100) (he : ν.1 4 = nI N) (hq2 : q < 2 ^ 31) : (hereK ν N q = 59) = (atN ν q = 59) := by
  by_cases h : q < N
  · rw [here_in hN he h]
  · obtain ⟨h1, h2⟩ := here_out hN he hq2 h
    rw [h1, h2]; exact propext (by decide)
theorem here_dig {ν : aS} {N q : Nat} (hN : N ≤ 100) (he : ν.1 4 = nI N) (hq2 : q < 2 ^ 31) : digN (hereK ν N q) = digN (atN ν q) := by
  by_cases h : q < N
  · rw [here_in hN he h]
  · obtain ⟨h1, h2⟩ := here_out hN he hq2 h
    rw [h1, h2]; decide
theorem here_eq {ν : aS} {N q : Nat} (hN : N ≤ 100) (he : ν.1 4 = nI N) (hq2 : q < 2 ^ 31) (h : ¬ digN (atN ν q) = 0) : hereK ν N q = atN ν q := by
  by_cases hq : q < N
  · exact here_in hN he hq
  · obtain ⟨h1, h2⟩ := here_out hN he hq2 hq
    rw [h2] at h; exact absurd (by decide) h
theorem m_here (w : aW) (κ : aK) {Y : aY} {σ : Nat → aS} (hC : Cp σ Y) {d N q : Nat} (hT : Txt σ d N) (hr : Y.1 2 = nI d) (hp : Y.1 3 = nI q) (hq : q < 2 ^ 31) : f_X4_here 50 (putY w κ Y) = some (hereK (σ d) N q, putY w κ Y) := by
  obtain ⟨hd, hN, h2, he⟩ := hT
  obtain ⟨hν, hY⟩ := hC d hd
  obtain ⟨hk, hsz, hel⟩ := hY.2.2 h2
  unfold f_X4_here hereK
  by_cases h : q < N
  · have hlt : ¬ nI N ≤ nI q := le_nIb (by omega) (by omega) h
    have ev := hel q (by omega)
    rw [if_pos h]
    simp only [gI_Y0, gR_Y1, gR_Y2, gR_Y3, gR_Y4, gR_Y5, gI_Y6, gR_Y7, gR_Y8, gR_Y9, gR_Y10, gI_Y11, gI_Y12, gR_Y13, gR_Y14, gR_Y15, gR_Y16, gR_Y17, gR_Y18, gI_Y19, gI_Y20, gI_Y21, gI_Y22, gI_Y23, gR_Y24, gR_Y25, gR_Y26, gR_Y27, gR_Y28, gI_Y29, gI_Y30, gI_Y31, gR_Y33, gR_Y34, gI_Y35, gR_Y36, cV_Y, bk_some, bind_some', zb_0, zb_1, zb_or, cc_or, kset_1, kset_21, kint_1, kint_21, kint_22, putY_moved, hr, hp, gA_Y64 w κ Y hd, hsz, he, hlt, h100 d hd, nI_add, gL_Y65 w κ Y (show 100 * d + q < 800 by omega), ev, Int32.toInt32_toInt64, if_true, if_false, not_true_eq_false, not_false_eq_true, Bool.false_eq_true, Bool.true_eq_false, reduceIte, ite_true, ite_false]
  · have hle : nI N ≤ nI q := (nI_leI (by omega) hq).mpr (by omega)
    rw [if_neg h]
    simp only [gI_Y0, gR_Y1, gR_Y2, gR_Y3, gR_Y4, gR_Y5, gI_Y6, gR_Y7, gR_Y8, gR_Y9, gR_Y10, gI_Y11, gI_Y12, gR_Y13, gR_Y14, gR_Y15, gR_Y16, gR_Y17, gR_Y18, gI_Y19, gI_Y20, gI_Y21, gI_Y22, gI_Y23, gR_Y24, gR_Y25, gR_Y26, gR_Y27, gR_Y28, gI_Y29, gI_Y30, gI_Y31, gR_Y33, gR_Y34, gI_Y35, gR_Y36, cV_Y, bk_some, bind_some', zb_0, zb_1, zb_or, cc_or, kset_1, kset_21, kint_1, kint_21, kint_22, putY_moved, hr, hp, gA_Y64 w κ Y hd, hsz, he, hle, if_true, if_false, not_true_eq_false, not_false_eq_true, Bool.false_eq_true, Bool.true_eq_false, reduceIte, ite_true, ite_false]
/-- where one is: at q, or stopped at a bad place -/
def St (Y : aY) (q : Nat) (o : Option Nat) : Prop := o.elim (Y.1 3 = nI q ∧ Y.1 4 = 0) (fun z => Y.1 3 = nI z ∧ Y.1 4 = 1)
def rdV (ν : aS) : Int32 → Nat → Nat → Int32
  | v, _, 0 => v
  | v, q, c + 1 => rdV ν (10 * v + atN ν q - 48) (q + 1) c
def SameB (Y Y' : aY) : Prop := Y'.2 = Y.2 ∧ ∀ z, z ≠ 3 → z ≠ 4 → Y'.1 z = Y.1 z
theorem SameB.refl (Y : aY) : SameB Y Y := ⟨rfl, fun _ _ _ => rfl⟩
theorem SameB.trans {a b c : aY} (h1 : SameB a b) (h2 : SameB b c) : SameB a c := ⟨h2.1.trans h1.1, fun z h3 h4 => (h2.2 z h3 h4).trans (h1.2 z h3 h4)⟩
theorem yint_ne (y : aY) {a z : Nat} (x : Int32) (h : z ≠ a) : (yint y a x).1 z = y.1 z := by rw [yint_1, if_neg h]
theorem SameB.y3 (Y : aY) (x : Int32) : SameB Y (yint Y 3 x) := ⟨rfl, fun z h3 _ => yint_ne Y x h3⟩
theorem SameB.y4 (Y : aY) (x : Int32) : SameB Y (yint Y 4 x) := ⟨rfl, fun z _ h4 => yint_ne Y x h4⟩
theorem Cp.same {σ : Nat → aS} {y y' : aY} (h : Cp σ y) (e : SameB y y') : Cp σ y' := h.of (fun k _ => by rw [e.1]) (by rw [e.1])
theorem rd_bad (w : aW) (κ : aK) (k : Int32 → Int32 → aW → Option (Int32 × aW)) {Y : aY} {n i : Nat} (hi : i < n) (hn : n < 2 ^ 31) (h4 : Y.1 4 = 1) (v : Int32) : c_X4_readDigits_4 50 (nI n) k v (nI i) (putY w κ Y) = k 0 (nI (i + 1)) (putY w κ Y) := by
  have hlt : ¬ nI n ≤ nI i := le_nIb hn (by omega) hi
  have e : yint Y 4 1 = Y := yint_self Y 4 1 h4
  have e3 : yint Y 3 (Y.1 3) = Y := yint_self Y 3 _ rfl
  simp only [c_X4_readDigits_4, c_X4_readDigits_39, c_X4_readDigits_65, hlt, gI_Y0, gR_Y1, gR_Y2, gR_Y3, gR_Y4, gR_Y5, gI_Y6, gR_Y7, gR_Y8, gR_Y9, gR_Y10, gI_Y11, gI_Y12, gR_Y13, gR_Y14, gR_Y15, gR_Y16, gR_Y17, gR_Y18, gI_Y19, gI_Y20, gI_Y21, gI_Y22, gI_Y23, gR_Y24, gR_Y25, gR_Y26, gR_Y27, gR_Y28, gI_Y29, gI_Y30, gI_Y31, gR_Y33, gR_Y34, gI_Y35, gR_Y36, cV_Y, bk_some, bind_some', zb_0, zb_1, zb_or, cc_or, kset_1, kset_21, kint_1, kint_21, kint_22, putY_moved, h4, sF_Y22, sF_Y21, e, i32_add0, e3, show ¬ (1 : Int32) = 0 by decide, or_true, nI_1, if_true, if_false, not_true_eq_false, not_false_eq_true, Bool.false_eq_true, Bool.true_eq_false, reduceIte, ite_true, ite_false]
theorem rd_good (w : aW) (κ : aK) (k : Int32 → Int32 → aW → Option (Int32 × aW)) {Y : aY} {σ : Nat → aS} (hC : Cp σ Y) {d N n i q : Nat} (hT : Txt σ d N) (hr : Y.1 2 = nI d) (hi : i < n) (hn : n < 2 ^ 31) (h3 : Y.1 3 = nI q) (h4 : Y.1 4 = 0) (hq : q < 2 ^ 31) (v : Int32) (hdg : dgB (atN (σ d) q) = true) : c_X4_readDigits_4 50 (nI n) k v (nI i) (putY w κ Y) = k (10 * v + atN (σ d) q - 48) (nI (i + 1)) (putY w κ (yint Y 3 (nI (q + 1)))) := by
  have hlt : ¬ nI n ≤ nI i := le_nIb hn (by omega) hi
  have e : yint Y 4 0 = Y := yint_self Y 4 0 h4
  have hh := m_here w κ hC hT hr h3 hq
  have hin : inR (atN (σ d) q) 48 57 = true := hdg
  have hqN : q < N := by
    rcases Nat.lt_or_ge q N with h | h
    · exact h
    · rw [at_out hT.2.1 hT.2.2.2 hq h] at hdg; exact absurd hdg (by decide)
  rw [here_in hT.2.1 hT.2.2.2 hqN] at hh
  simp only [c_X4_readDigits_4, c_X4_readDigits_39, c_X4_readDigits_65, hlt, gI_Y0, gR_Y1, gR_Y2, gR_Y3, gR_Y4, gR_Y5, gI_Y6, gR_Y7, gR_Y8, gR_Y9, gR_Y10, gI_Y11, gI_Y12, gR_Y13, gR_Y14, gR_Y15, gR_Y16, gR_Y17, gR_Y18, gI_Y19, gI_Y20, gI_Y21, gI_Y22, gI_Y23, gR_Y24, gR_Y25, gR_Y26, gR_Y27, gR_Y28, gI_Y29, gI_Y30, gI_Y31, gR_Y33, gR_Y34, gI_Y35, gR_Y36, cV_Y, bk_some, bind_some', zb_0, zb_1, zb_or, cc_or, kset_1, kset_21, kint_1, kint_21, kint_22, putY_moved, h4, hh, p_in32 (x := atN (σ d) q) (a := 48) (b := 57) (a' := 48) (b' := 57) rfl rfl, hin, sF_Y22, sF_Y21, e, h3, true_or, nI_1, if_true, if_false, not_true_eq_false, not_false_eq_true, Bool.false_eq_true, Bool.true_eq_false, reduceIte, ite_true, ite_false]
theorem rd_stop (w : aW) (κ : aK) (k : Int32 → Int32 → aW → Option (Int32 × aW)) {Y : aY} {σ : Nat → aS} (hC : Cp σ Y) {d N n i q : Nat} (hT : Txt σ d N) (hr : Y.1 2 = nI d) (hi : i < n) (hn : n < 2 ^ 31) (h3 : Y.1 3 = nI q) (h4 : Y.1 4 = 0) (hq : q < 2 ^ 31) (v : Int32) (hdg : dgB (atN (σ d) q) = false) : c_X4_readDigits_4 50 (nI n) k v (nI i) (putY w κ Y) = k 0 (nI (i + 1)) (putY w κ (yint Y 4 1)) := by
  have hlt : ¬ nI n ≤ nI i := le_nIb hn (by omega) hi
  have hh := m_here w κ hC hT hr h3 hq
  have hin : inR (hereK (σ d) N q) 48 57 = false := (here_dg hT.2.1 hT.2.2.2 hq).trans hdg
  have e3 : yint (yint Y 4 1) 3 (Y.1 3) = yint Y 4 1 := yint_self _ 3 _ (yint_ne Y 1 (by decide))
  have e4 : (yint Y 4 1).1 4 = 1 := yint_at Y 4 1
  have e5 : (yint Y 4 1).1 3 = Y.1 3 := yint_ne Y 1 (by decide)
  simp only [c_X4_readDigits_4, c_X4_readDigits_39, c_X4_readDigits_65, hlt, gI_Y0, gR_Y1, gR_Y2, gR_Y3, gR_Y4, gR_Y5, gI_Y6, gR_Y7, gR_Y8, gR_Y9, gR_Y10, gI_Y11, gI_Y12, gR_Y13, gR_Y14, gR_Y15, gR_Y16, gR_Y17, gR_Y18, gI_Y19, gI_Y20, gI_Y21, gI_Y22, gI_Y23, gR_Y24, gR_Y25, gR_Y26, gR_Y27, gR_Y28, gI_Y29, gI_Y30, gI_Y31, gR_Y33, gR_Y34, gI_Y35, gR_Y36, cV_Y, bk_some, bind_some', zb_0, zb_1, zb_or, cc_or, kset_1, kset_21, kint_1, kint_21, kint_22, putY_moved, h4, hh, p_in32 (x := hereK (σ d) N q) (a := 48) (b := 57) (a' := 48) (b' := 57) rfl rfl, hin, sF_Y22, sF_Y21, e4, e5, i32_add0, e3, show ¬ (1 : Int32) = 0 by decide, or_true, nI_1, if_true, if_false, not_true_eq_false, not_false_eq_true, Bool.false_eq_true, Bool.true_eq_false, reduceIte, ite_true, ite_false]
theorem rdY (w : aW) (κ : aK) {σ : Nat → aS} {d N n : Nat} (hT : Txt σ d N) (hn : n < 2 ^ 31) : ∀ (c i q : Nat) (v : Int32) (o : Option Nat) (Y : aY) (f : Nat), i + c = n → c < f → q + c < 2000 → Cp σ Y → Y.1 2 = nI d → St Y q o → ∃ v' Y', loop3 (c_X4_readDigits_4 50 (nI n)) f v (nI i) (putY w κ Y) = some (v', putY w κ Y') ∧ SameB Y Y' ∧ St Y' (q + c) (orO o (bdF (σ d) q c)) ∧ (orO o (bdF (σ d) q c) = none → v' = rdV (σ d) v q c)
  | 0, i, q, v, o, Y, f + 1, hi, _, _, _, _, hS => by
    have : i = n := by omega
    subst this
    refine ⟨v, Y, ?_, SameB.refl Y, ?_, fun _ => rfl⟩
    · rw [loop3_s]
      simp only [c_X4_readDigits_4, Int32.le_refl, if_true, if_false, not_true_eq_false, not_false_eq_true, Bool.false_eq_true, Bool.true_eq_false, reduceIte, ite_true, ite_false]
    · cases o with
      | none => exact hS
      | some z => exact hS
  | c + 1, i, q, v, o, Y, f + 1, hi, hf, hq, hC, hr, hS => by
    have hin : i < n := by omega
    rw [loop3_s]
    cases o with
    | some z =>
      have h4 : Y.1 4 = 1 := hS.2
      obtain ⟨v', Y', h1, h2, h3, -⟩ := rdY w κ hT hn c (i + 1) (q + 1) 0 (some z) Y f (by omega) (by omega) (by omega) hC hr hS
      refine ⟨v', Y', ?_, h2, h3, fun h => (by cases h)⟩
      rw [rd_bad w κ _ hin hn h4 v]
      exact h1
    | none =>
      have h3 : Y.1 3 = nI q := hS.1
      have h4 : Y.1 4 = 0 := hS.2
      show ∃ v' Y', _ ∧ _ ∧ St Y' (q + (c + 1)) (bdF (σ d) q (c + 1)) ∧ (bdF (σ d) q (c + 1) = none → v' = rdV (σ d) (10 * v + atN (σ d) q - 48) (q + 1) c)
      unfold bdF
      rw [fnd_s]
      by_cases hdg : dgB (atN (σ d) q) = true
      · rw [if_neg (show ¬ (!dgB (atN (σ d) q)) = true by rw [hdg]; decide)]
        have hS' : St (yint Y 3 (nI (q + 1))) (q + 1) none := ⟨yint_at _ _ _, (yint_ne Y _ (by decide)).trans h4⟩
        obtain ⟨v', Y', g1, g2, g3, g4⟩ := rdY w κ hT hn c (i + 1) (q + 1) (10 * v + atN (σ d) q - 48) none (yint Y 3 (nI (q + 1))) f (by omega) (by omega) (by omega) (hC.same (SameB.y3 Y _)) ((yint_ne Y _ (by decide)).trans hr) hS'
        refine ⟨v', Y', ?_, (SameB.y3 Y _).trans g2, ?_, g4⟩
        · rw [rd_good w κ _ hC hT hr hin hn h3 h4 (by omega) v hdg]
          exact g1
        · rw [show q + (c + 1) = q + 1 + c by omega]
          exact g3
      · have hdg := Bool.eq_false_iff.mpr hdg
        rw [if_pos (show (!dgB (atN (σ d) q)) = true by rw [hdg]; rfl)]
        have hS' : St (yint Y 4 1) (q + 1) (some q) := ⟨(yint_ne Y _ (by decide)).trans h3, yint_at _ _ _⟩
        obtain ⟨v', Y', g1, g2, g3, -⟩ := rdY w κ hT hn c (i + 1) (q + 1) 0 (some q) (yint Y 4 1) f (by omega) (by omega) (by omega) (hC.same (SameB.y4 Y _)) ((yint_ne Y _ (by decide)).trans hr) hS'
        refine ⟨v', Y', ?_, (SameB.y4 Y _).trans g2, g3, fun h => (by cases h)⟩
        rw [rd_stop w κ _ hC hT hr hin hn h3 h4 (by omega) v hdg]
        exact g1
theorem m_digits (w : aW) (κ : aK) {σ : Nat → aS} {d N : Nat} (hT : Txt σ d N) {n q : Nat} (hn : n < 900) {o : Option Nat} {Y : aY} (hq : q < 1000) (hC : Cp σ Y) (hr : Y.1 2 = nI d) (hS : St Y q o) : ∃ v' Y', f_X4_readDigits 50 (nI n) (putY w κ Y) = some (v', putY w κ Y') ∧ SameB Y Y' ∧ St Y' (q + n) (orO o (bdF (σ d) q n)) ∧ (orO o (bdF (σ d) q n) = none → v' = rdV (σ d) 0 q n) :=
  rdY w κ hT (by omega) n 0 q 0 o Y a_fuel (by omega) (show n < 1000 by omega) (by omega) hC hr hS
theorem orO_assoc (a b c : Option Nat) : orO (orO a b) c = orO a (orO b c) := by cases a <;> rfl
theorem bd_add (ν : aS) : ∀ (a b q : Nat), bdF ν q (a + b) = orO (bdF ν q a) (bdF ν (q + a) b)
  | 0, b, q => by
    rw [Nat.zero_add]; rfl
  | a + 1, b, q => by
    rw [show a + 1 + b = (a + b) + 1 by omega]
    unfold bdF
    rw [fnd_s, fnd_s]
    by_cases h : (!dgB (atN ν q)) = true
    · rw [if_pos h, if_pos h]; rfl
    · rw [if_neg h, if_neg h]
      have e := bd_add ν a b (q + 1)
      unfold bdF at e
      rw [e, show q + 1 + a = q + (a + 1) by omega]
theorem rd_nm {ν : aS} (q : Nat) : rdV ν 0 q 1 = nmK ν q 1 ∧ rdV ν 0 q 2 = nmK ν q 2 ∧ rdV ν 0 q 3 = nmK ν q 3 := by
  have e0 : ∀ z : Int32, z * 10 = 10 * z := fun z => Int32.mul_comm z 10
  have ea : nI q + nI 0 = nI q := nI_add q 0
  have eb : nI q + nI 1 = nI (q + 1) := nI_add q 1
  have ec : nI q + nI 2 = nI (q + 2) := nI_add q 2
  unfold nmK
  simp only [rdV, numS, atN, ea, eb, ec, e0]
  exact ⟨trivial, trivial, trivial⟩
/-- what the reading of numbers changes -/
def RN (Y Y' : aY) (i : Nat) : Prop := (∀ z, z ≠ 3 → z ≠ 4 → Y'.1 z = Y.1 z) ∧ (∀ k, k ≠ 7 → Y'.2.1 k = Y.2.1 k) ∧ (∀ z, z < i ∨ i + 4 ≤ z → Y'.2.1 7 z = Y.2.1 7 z) ∧ Y'.2.2 = Y.2.2
theorem RN.refl (Y : aY) (i : Nat) : RN Y Y i := ⟨fun _ _ _ => rfl, fun _ _ => rfl, fun _ _ => rfl, rfl⟩
theorem RN.trans {a b c : aY} {i : Nat} (h1 : RN a b i) (h2 : RN b c i) : RN a c i := ⟨fun z h3 h4 => (h2.1 z h3 h4).trans (h1.1 z h3 h4), fun k hk => (h2.2.1 k hk).trans (h1.2.1 k hk), fun z hz => (h2.2.2.1 z hz).trans (h1.2.2.1 z hz), h2.2.2.2.trans h1.2.2.2⟩
theorem SameB.rn {Y Y' : aY} (h : SameB Y Y') (i : Nat) : RN Y Y' i := ⟨h.2, fun k _ => by rw [h.1], fun z _ => by rw [h.1], by rw [h.1]⟩
theorem yset_rn (Y : aY) (i j : Nat) (x : Int32) (h1 : i ≤ j) (h2 : j < i + 4) : RN Y (yset Y 7 j x) i := ⟨fun _ _ _ => rfl, fun k hk => funext fun z => yset_k Y j x hk, fun z hz => yset_oth Y 7 j x (by omega), rfl⟩
theorem Cp.rn {σ : Nat → aS} {y y' : aY} {i : Nat} (h : Cp σ y) (e : RN y y' i) : Cp σ y' := h.of (fun k hk => e.2.1 k (by omega)) (by rw [e.2.2.2])
theorem orO_l {a b : Option Nat} (h : orO a b = none) : a = none := (orO_none h).1
theorem nk1 (i : Nat) : nI i + 1 = nI (i + 1) := nI_add i 1
theorem rn_98 (w : aW) (κ : aK) {σ : Nat → aS} {d N : Nat} (hT : Txt σ d N) {q i : Nat} {Y : aY} (hq : q < 900) (hi : i + 4 ≤ 204) (hC : Cp σ Y) (hr : Y.1 2 = nI d) (hS : St Y q none) : ∃ Y', f_X4_readNumbers 50 98 (nI i) (putY w κ Y) = some ((), putY w κ Y') ∧ RN Y Y' i ∧ St Y' (q + 4) (bdF (σ d) q 4) ∧ (bdF (σ d) q 4 = none → Y'.2.1 7 (i + 0) = rdV (σ d) 0 (q + 0) 1 ∧ Y'.2.1 7 (i + 1) = rdV (σ d) 0 (q + 1) 1 ∧ Y'.2.1 7 (i + 2) = rdV (σ d) 0 (q + 2) 2) := by
  obtain ⟨v0, A0, e0, s0, t0, u0⟩ := m_digits w κ hT (n := 1) (by decide) (q := q + 0) (by omega) hC hr hS
  have r0 : RN Y (yset A0 7 (i + 0) v0) i := (s0.rn i).trans (yset_rn A0 i (i + 0) v0 (by omega) (by omega))
  have c0 : Cp σ (yset A0 7 (i + 0) v0) := (hC).rn r0
  have h0 : (yset A0 7 (i + 0) v0).1 2 = nI d := (r0.1 2 (by decide) (by decide)).trans hr
  have w0 : St (yset A0 7 (i + 0) v0) (q + 1) _ := (show q + 0 + 1 = q + 1 by omega) ▸ t0
  obtain ⟨v1, A1, e1, s1, t1, u1⟩ := m_digits w κ hT (n := 1) (by decide) (q := q + 1) (by omega) c0 h0 w0
  have r1 : RN (yset A0 7 (i + 0) v0) (yset A1 7 (i + 1) v1) i := (s1.rn i).trans (yset_rn A1 i (i + 1) v1 (by omega) (by omega))
  have c1 : Cp σ (yset A1 7 (i + 1) v1) := (c0).rn r1
  have h1 : (yset A1 7 (i + 1) v1).1 2 = nI d := (r1.1 2 (by decide) (by decide)).trans h0
  have w1 : St (yset A1 7 (i + 1) v1) (q + 2) _ := (show q + 1 + 1 = q + 2 by omega) ▸ t1
  obtain ⟨v2, A2, e2, s2, t2, u2⟩ := m_digits w κ hT (n := 2) (by decide) (q := q + 2) (by omega) c1 h1 w1
  have r2 : RN (yset A1 7 (i + 1) v1) (yset A2 7 (i + 2) v2) i := (s2.rn i).trans (yset_rn A2 i (i + 2) v2 (by omega) (by omega))
  have c2 : Cp σ (yset A2 7 (i + 2) v2) := (c1).rn r2
  have h2 : (yset A2 7 (i + 2) v2).1 2 = nI d := (r2.1 2 (by decide) (by decide)).trans h1
  have w2 : St (yset A2 7 (i + 2) v2) (q + 4) _ := (show q + 2 + 2 = q + 4 by omega) ▸ t2
  have hb : orO (orO (orO (none) (bdF (σ d) (q + 0) 1)) (bdF (σ d) (q + 1) 1)) (bdF (σ d) (q + 2) 2) = bdF (σ d) q 4 := by
    rw [show bdF (σ d) q 4 = bdF (σ d) (q + 0) 4 from rfl]
    rw [show bdF (σ d) (q + 0) 4 = orO (bdF (σ d) (q + 0) 1) (bdF (σ d) (q + 1) 3) from bd_add (σ d) 1 3 (q + 0)]
    rw [show bdF (σ d) (q + 1) 3 = orO (bdF (σ d) (q + 1) 1) (bdF (σ d) (q + 2) 2) from bd_add (σ d) 1 2 (q + 1)]
    simp only [orO_assoc]
    rfl
  refine ⟨(yset A2 7 (i + 2) v2), ?_, ((r0).trans r1).trans r2, hb ▸ w2, fun hn => ?_⟩
  · have q0 : nI i = nI (i + 0) := rfl
    have g1 : nI i + 1 = nI (i + 1) := nI_add i 1
    have g2 : nI i + 2 = nI (i + 2) := nI_add i 2
    have g3 : nI i + 3 = nI (i + 3) := nI_add i 3
    have z1 : (1 : Int32) = nI 1 := rfl
    have k1 : ∀ (y : aY), sA (putY w κ y) 68 (nI i) = sA (putY w κ y) 68 (nI (i + 0)) := fun _ => rfl
    have e0 : f_X4_readDigits 50 1 (putY w κ Y) = some (v0, putY w κ A0) := e0
    have e1 : f_X4_readDigits 50 1 (putY w κ (yset A0 7 (i + 0) v0)) = some (v1, putY w κ A1) := e1
    have e2 : f_X4_readDigits 50 2 (putY w κ (yset A1 7 (i + 1) v1)) = some (v2, putY w κ A2) := e2
    unfold f_X4_readNumbers
    simp only [c_X4_readNumbers_17, c_X4_readNumbers_39, c_X4_readNumbers_52, c_X4_readNumbers_70, c_X4_readNumbers_83, gI_Y0, gR_Y1, gR_Y2, gR_Y3, gR_Y4, gR_Y5, gI_Y6, gR_Y7, gR_Y8, gR_Y9, gR_Y10, gI_Y11, gI_Y12, gR_Y13, gR_Y14, gR_Y15, gR_Y16, gR_Y17, gR_Y18, gI_Y19, gI_Y20, gI_Y21, gI_Y22, gI_Y23, gR_Y24, gR_Y25, gR_Y26, gR_Y27, gR_Y28, gI_Y29, gI_Y30, gI_Y31, gR_Y33, gR_Y34, gI_Y35, gR_Y36, cV_Y, bk_some, bind_some', zb_0, zb_1, zb_or, cc_or, kset_1, kset_21, kint_1, kint_21, kint_22, putY_moved, k1, g1, g2, g3, e0, e1, e2, sA_Y68 w κ _ (show i + 0 < 204 by omega), sA_Y68 w κ _ (show i + 1 < 204 by omega), sA_Y68 w κ _ (show i + 2 < 204 by omega), show ¬ (98 : Int32) = 99 by decide, show ¬ (98 : Int32) = 100 by decide, show ¬ (98 : Int32) = 103 by decide, show ¬ (98 : Int32) = 112 by decide, show ¬ (98 : Int32) = 117 by decide, if_true, if_false, not_true_eq_false, not_false_eq_true, Bool.false_eq_true, Bool.true_eq_false, reduceIte, ite_true, ite_false]
  · rw [← hb] at hn
    have n2 := hn
    have n1 := (orO_l n2)
    have n0 := (orO_l n1)
    have m0 : (yset A0 7 (i + 0) v0).2.1 7 (i + 0) = rdV (σ d) 0 (q + 0) 1 := (yset_at _ _ _ _).trans (u0 n0)
    have m0_1 : (yset A1 7 (i + 1) v1).2.1 7 (i + 0) = rdV (σ d) 0 (q + 0) 1 := (yset_oth A1 7 (i + 1) v1 (by omega)).trans ((congrFun (congrFun (congrArg Prod.fst s1.1) 7) (i + 0)).trans m0)
    have m0_2 : (yset A2 7 (i + 2) v2).2.1 7 (i + 0) = rdV (σ d) 0 (q + 0) 1 := (yset_oth A2 7 (i + 2) v2 (by omega)).trans ((congrFun (congrFun (congrArg Prod.fst s2.1) 7) (i + 0)).trans m0_1)
    have m1 : (yset A1 7 (i + 1) v1).2.1 7 (i + 1) = rdV (σ d) 0 (q + 1) 1 := (yset_at _ _ _ _).trans (u1 n1)
    have m1_2 : (yset A2 7 (i + 2) v2).2.1 7 (i + 1) = rdV (σ d) 0 (q + 1) 1 := (yset_oth A2 7 (i + 2) v2 (by omega)).trans ((congrFun (congrFun (congrArg Prod.fst s2.1) 7) (i + 1)).trans m1)
    have m2 : (yset A2 7 (i + 2) v2).2.1 7 (i + 2) = rdV (σ d) 0 (q + 2) 2 := (yset_at _ _ _ _).trans (u2 n2)
    exact ⟨m0_2, m1_2, m2⟩
theorem rn_99 (w : aW) (κ : aK) {σ : Nat → aS} {d N : Nat} (hT : Txt σ d N) {q i : Nat} {Y : aY} (hq : q < 900) (hi : i + 4 ≤ 204) (hC : Cp σ Y) (hr : Y.1 2 = nI d) (hS : St Y q none) : ∃ Y', f_X4_readNumbers 50 99 (nI i) (putY w κ Y) = some ((), putY w κ Y') ∧ RN Y Y' i ∧ St Y' (q + 2) (bdF (σ d) q 2) ∧ (bdF (σ d) q 2 = none → Y'.2.1 7 (i + 0) = rdV (σ d) 0 (q + 0) 1 ∧ Y'.2.1 7 (i + 1) = rdV (σ d) 0 (q + 1) 1) := by
  obtain ⟨v0, A0, e0, s0, t0, u0⟩ := m_digits w κ hT (n := 1) (by decide) (q := q + 0) (by omega) hC hr hS
  have r0 : RN Y (yset A0 7 (i + 0) v0) i := (s0.rn i).trans (yset_rn A0 i (i + 0) v0 (by omega) (by omega))
  have c0 : Cp σ (yset A0 7 (i + 0) v0) := (hC).rn r0
  have h0 : (yset A0 7 (i + 0) v0).1 2 = nI d := (r0.1 2 (by decide) (by decide)).trans hr
  have w0 : St (yset A0 7 (i + 0) v0) (q + 1) _ := (show q + 0 + 1 = q + 1 by omega) ▸ t0
  obtain ⟨v1, A1, e1, s1, t1, u1⟩ := m_digits w κ hT (n := 1) (by decide) (q := q + 1) (by omega) c0 h0 w0
  have r1 : RN (yset A0 7 (i + 0) v0) (yset A1 7 (i + 1) v1) i := (s1.rn i).trans (yset_rn A1 i (i + 1) v1 (by omega) (by omega))
  have c1 : Cp σ (yset A1 7 (i + 1) v1) := (c0).rn r1
  have h1 : (yset A1 7 (i + 1) v1).1 2 = nI d := (r1.1 2 (by decide) (by decide)).trans h0
  have w1 : St (yset A1 7 (i + 1) v1) (q + 2) _ := (show q + 1 + 1 = q + 2 by omega) ▸ t1
  have hb : orO (orO (none) (bdF (σ d) (q + 0) 1)) (bdF (σ d) (q + 1) 1) = bdF (σ d) q 2 := by
    rw [show bdF (σ d) q 2 = bdF (σ d) (q + 0) 2 from rfl]
    rw [show bdF (σ d) (q + 0) 2 = orO (bdF (σ d) (q + 0) 1) (bdF (σ d) (q + 1) 1) from bd_add (σ d) 1 1 (q + 0)]
    simp only [orO_assoc]
    rfl
  refine ⟨(yset A1 7 (i + 1) v1), ?_, (r0).trans r1, hb ▸ w1, fun hn => ?_⟩
  · have q0 : nI i = nI (i + 0) := rfl
    have g1 : nI i + 1 = nI (i + 1) := nI_add i 1
    have g2 : nI i + 2 = nI (i + 2) := nI_add i 2
    have g3 : nI i + 3 = nI (i + 3) := nI_add i 3
    have z1 : (1 : Int32) = nI 1 := rfl
    have k1 : ∀ (y : aY), sA (putY w κ y) 68 (nI i) = sA (putY w κ y) 68 (nI (i + 0)) := fun _ => rfl
    have e0 : f_X4_readDigits 50 1 (putY w κ Y) = some (v0, putY w κ A0) := e0
    have e1 : f_X4_readDigits 50 1 (putY w κ (yset A0 7 (i + 0) v0)) = some (v1, putY w κ A1) := e1
    unfold f_X4_readNumbers
    simp only [c_X4_readNumbers_17, c_X4_readNumbers_39, c_X4_readNumbers_52, c_X4_readNumbers_70, c_X4_readNumbers_83, gI_Y0, gR_Y1, gR_Y2, gR_Y3, gR_Y4, gR_Y5, gI_Y6, gR_Y7, gR_Y8, gR_Y9, gR_Y10, gI_Y11, gI_Y12, gR_Y13, gR_Y14, gR_Y15, gR_Y16, gR_Y17, gR_Y18, gI_Y19, gI_Y20, gI_Y21, gI_Y22, gI_Y23, gR_Y24, gR_Y25, gR_Y26, gR_Y27, gR_Y28, gI_Y29, gI_Y30, gI_Y31, gR_Y33, gR_Y34, gI_Y35, gR_Y36, cV_Y, bk_some, bind_some', zb_0, zb_1, zb_or, cc_or, kset_1, kset_21, kint_1, kint_21, kint_22, putY_moved, k1, g1, g2, g3, e0, e1, sA_Y68 w κ _ (show i + 0 < 204 by omega), sA_Y68 w κ _ (show i + 1 < 204 by omega), show ¬ (99 : Int32) = 98 by decide, show ¬ (99 : Int32) = 100 by decide, show ¬ (99 : Int32) = 103 by decide, show ¬ (99 : Int32) = 112 by decide, show ¬ (99 : Int32) = 117 by decide, if_true, if_false, not_true_eq_false, not_false_eq_true, Bool.false_eq_true, Bool.true_eq_false, reduceIte, ite_true, ite_false]
  · rw [← hb] at hn
    have n1 := hn
    have n0 := (orO_l n1)
    have m0 : (yset A0 7 (i + 0) v0).2.1 7 (i + 0) = rdV (σ d) 0 (q + 0) 1 := (yset_at _ _ _ _).trans (u0 n0)
    have m0_1 : (yset A1 7 (i + 1) v1).2.1 7 (i + 0) = rdV (σ d) 0 (q + 0) 1 := (yset_oth A1 7 (i + 1) v1 (by omega)).trans ((congrFun (congrFun (congrArg Prod.fst s1.1) 7) (i + 0)).trans m0)
    have m1 : (yset A1 7 (i + 1) v1).2.1 7 (i + 1) = rdV (σ d) 0 (q + 1) 1 := (yset_at _ _ _ _).trans (u1 n1)
    exact ⟨m0_1, m1⟩
theorem rn_100 (w : aW) (κ : aK) {σ : Nat → aS} {d N : Nat} (hT : Txt σ d N) {q i : Nat} {Y : aY} (hq : q < 900) (hi : i + 4 ≤ 204) (hC : Cp σ Y) (hr : Y.1 2 = nI d) (hS : St Y q none) : ∃ Y', f_X4_readNumbers 50 100 (nI i) (putY w κ Y) = some ((), putY w κ Y') ∧ RN Y Y' i ∧ St Y' (q + 2) (bdF (σ d) q 2) ∧ (bdF (σ d) q 2 = none → Y'.2.1 7 (i + 0) = rdV (σ d) 0 (q + 0) 2) := by
  obtain ⟨v0, A0, e0, s0, t0, u0⟩ := m_digits w κ hT (n := 2) (by decide) (q := q + 0) (by omega) hC hr hS
  have r0 : RN Y (yset A0 7 (i + 0) v0) i := (s0.rn i).trans (yset_rn A0 i (i + 0) v0 (by omega) (by omega))
  have c0 : Cp σ (yset A0 7 (i + 0) v0) := (hC).rn r0
  have h0 : (yset A0 7 (i + 0) v0).1 2 = nI d := (r0.1 2 (by decide) (by decide)).trans hr
  have w0 : St (yset A0 7 (i + 0) v0) (q + 2) _ := (show q + 0 + 2 = q + 2 by omega) ▸ t0
  have hb : orO (none) (bdF (σ d) (q + 0) 2) = bdF (σ d) q 2 := by
    rw [show bdF (σ d) q 2 = bdF (σ d) (q + 0) 2 from rfl]
    rfl
  refine ⟨(yset A0 7 (i + 0) v0), ?_, r0, hb ▸ w0, fun hn => ?_⟩
  · have q0 : nI i = nI (i + 0) := rfl
    have g1 : nI i + 1 = nI (i + 1) := nI_add i 1
    have g2 : nI i + 2 = nI (i + 2) := nI_add i 2
    have g3 : nI i + 3 = nI (i + 3) := nI_add i 3
    have z1 : (1 : Int32) = nI 1 := rfl
    have k1 : ∀ (y : aY), sA (putY w κ y) 68 (nI i) = sA (putY w κ y) 68 (nI (i + 0)) := fun _ => rfl
    have e0 : f_X4_readDigits 50 2 (putY w κ Y) = some (v0, putY w κ A0) := e0
    unfold f_X4_readNumbers
    simp only [c_X4_readNumbers_17, c_X4_readNumbers_39, c_X4_readNumbers_52, c_X4_readNumbers_70, c_X4_readNumbers_83, gI_Y0, gR_Y1, gR_Y2, gR_Y3, gR_Y4, gR_Y5, gI_Y6, gR_Y7, gR_Y8, gR_Y9, gR_Y10, gI_Y11, gI_Y12, gR_Y13, gR_Y14, gR_Y15, gR_Y16, gR_Y17, gR_Y18, gI_Y19, gI_Y20, gI_Y21, gI_Y22, gI_Y23, gR_Y24, gR_Y25, gR_Y26, gR_Y27, gR_Y28, gI_Y29, gI_Y30, gI_Y31, gR_Y33, gR_Y34, gI_Y35, gR_Y36, cV_Y, bk_some, bind_some', zb_0, zb_1, zb_or, cc_or, kset_1, kset_21, kint_1, kint_21, kint_22, putY_moved, k1, g1, g2, g3, e0, sA_Y68 w κ _ (show i + 0 < 204 by omega), show ¬ (100 : Int32) = 98 by decide, show ¬ (100 : Int32) = 99 by decide, show ¬ (100 : Int32) = 103 by decide, show ¬ (100 : Int32) = 112 by decide, show ¬ (100 : Int32) = 117 by decide, if_true, if_false, not_true_eq_false, not_false_eq_true, Bool.false_eq_true, Bool.true_eq_false, reduceIte, ite_true, ite_false]
  · rw [← hb] at hn
    have n0 := hn
    have m0 : (yset A0 7 (i + 0) v0).2.1 7 (i + 0) = rdV (σ d) 0 (q + 0) 2 := (yset_at _ _ _ _).trans (u0 n0)
    exact m0
theorem rn_103 (w : aW) (κ : aK) {σ : Nat → aS} {d N : Nat} (hT : Txt σ d N) {q i : Nat} {Y : aY} (hq : q < 900) (hi : i + 4 ≤ 204) (hC : Cp σ Y) (hr : Y.1 2 = nI d) (hS : St Y q none) : ∃ Y', f_X4_readNumbers 50 103 (nI i) (putY w κ Y) = some ((), putY w κ Y') ∧ RN Y Y' i ∧ St Y' (q + 3) (bdF (σ d) q 3) ∧ (bdF (σ d) q 3 = none → Y'.2.1 7 (i + 0) = rdV (σ d) 0 (q + 0) 1 ∧ Y'.2.1 7 (i + 2) = rdV (σ d) 0 (q + 1) 2) := by
  obtain ⟨v0, A0, e0, s0, t0, u0⟩ := m_digits w κ hT (n := 1) (by decide) (q := q + 0) (by omega) hC hr hS
  have r0 : RN Y (yset A0 7 (i + 0) v0) i := (s0.rn i).trans (yset_rn A0 i (i + 0) v0 (by omega) (by omega))
  have c0 : Cp σ (yset A0 7 (i + 0) v0) := (hC).rn r0
  have h0 : (yset A0 7 (i + 0) v0).1 2 = nI d := (r0.1 2 (by decide) (by decide)).trans hr
  have w0 : St (yset A0 7 (i + 0) v0) (q + 1) _ := (show q + 0 + 1 = q + 1 by omega) ▸ t0
  obtain ⟨v1, A1, e1, s1, t1, u1⟩ := m_digits w κ hT (n := 2) (by decide) (q := q + 1) (by omega) c0 h0 w0
  have r1 : RN (yset A0 7 (i + 0) v0) (yset A1 7 (i + 2) v1) i := (s1.rn i).trans (yset_rn A1 i (i + 2) v1 (by omega) (by omega))
  have c1 : Cp σ (yset A1 7 (i + 2) v1) := (c0).rn r1
  have h1 : (yset A1 7 (i + 2) v1).1 2 = nI d := (r1.1 2 (by decide) (by decide)).trans h0
  have w1 : St (yset A1 7 (i + 2) v1) (q + 3) _ := (show q + 1 + 2 = q + 3 by omega) ▸ t1
  have hb : orO (orO (none) (bdF (σ d) (q + 0) 1)) (bdF (σ d) (q + 1) 2) = bdF (σ d) q 3 := by
    rw [show bdF (σ d) q 3 = bdF (σ d) (q + 0) 3 from rfl]
    rw [show bdF (σ d) (q + 0) 3 = orO (bdF (σ d) (q + 0) 1) (bdF (σ d) (q + 1) 2) from bd_add (σ d) 1 2 (q + 0)]
    simp only [orO_assoc]
    rfl
  refine ⟨(yset A1 7 (i + 2) v1), ?_, (r0).trans r1, hb ▸ w1, fun hn => ?_⟩
  · have q0 : nI i = nI (i + 0) := rfl
    have g1 : nI i + 1 = nI (i + 1) := nI_add i 1
    have g2 : nI i + 2 = nI (i + 2) := nI_add i 2
    have g3 : nI i + 3 = nI (i + 3) := nI_add i 3
    have z1 : (1 : Int32) = nI 1 := rfl
    have k1 : ∀ (y : aY), sA (putY w κ y) 68 (nI i) = sA (putY w κ y) 68 (nI (i + 0)) := fun _ => rfl
    have e0 : f_X4_readDigits 50 1 (putY w κ Y) = some (v0, putY w κ A0) := e0
    have e1 : f_X4_readDigits 50 2 (putY w κ (yset A0 7 (i + 0) v0)) = some (v1, putY w κ A1) := e1
    unfold f_X4_readNumbers
    simp only [c_X4_readNumbers_17, c_X4_readNumbers_39, c_X4_readNumbers_52, c_X4_readNumbers_70, c_X4_readNumbers_83, gI_Y0, gR_Y1, gR_Y2, gR_Y3, gR_Y4, gR_Y5, gI_Y6, gR_Y7, gR_Y8, gR_Y9, gR_Y10, gI_Y11, gI_Y12, gR_Y13, gR_Y14, gR_Y15, gR_Y16, gR_Y17, gR_Y18, gI_Y19, gI_Y20, gI_Y21, gI_Y22, gI_Y23, gR_Y24, gR_Y25, gR_Y26, gR_Y27, gR_Y28, gI_Y29, gI_Y30, gI_Y31, gR_Y33, gR_Y34, gI_Y35, gR_Y36, cV_Y, bk_some, bind_some', zb_0, zb_1, zb_or, cc_or, kset_1, kset_21, kint_1, kint_21, kint_22, putY_moved, k1, g1, g2, g3, e0, e1, sA_Y68 w κ _ (show i + 0 < 204 by omega), sA_Y68 w κ _ (show i + 2 < 204 by omega), show ¬ (103 : Int32) = 98 by decide, show ¬ (103 : Int32) = 99 by decide, show ¬ (103 : Int32) = 100 by decide, show ¬ (103 : Int32) = 112 by decide, show ¬ (103 : Int32) = 117 by decide, if_true, if_false, not_true_eq_false, not_false_eq_true, Bool.false_eq_true, Bool.true_eq_false, reduceIte, ite_true, ite_false]
  · rw [← hb] at hn
    have n1 := hn
    have n0 := (orO_l n1)
    have m0 : (yset A0 7 (i + 0) v0).2.1 7 (i + 0) = rdV (σ d) 0 (q + 0) 1 := (yset_at _ _ _ _).trans (u0 n0)
    have m0_1 : (yset A1 7 (i + 2) v1).2.1 7 (i + 0) = rdV (σ d) 0 (q + 0) 1 := (yset_oth A1 7 (i + 2) v1 (by omega)).trans ((congrFun (congrFun (congrArg Prod.fst s1.1) 7) (i + 0)).trans m0)
    have m1 : (yset A1 7 (i + 2) v1).2.1 7 (i + 2) = rdV (σ d) 0 (q + 1) 2 := (yset_at _ _ _ _).trans (u1 n1)
    exact ⟨m0_1, m1⟩
theorem rn_112 (w : aW) (κ : aK) {σ : Nat → aS} {d N : Nat} (hT : Txt σ d N) {q i : Nat} {Y : aY} (hq : q < 900) (hi : i + 4 ≤ 204) (hC : Cp σ Y) (hr : Y.1 2 = nI d) (hS : St Y q none) : ∃ Y', f_X4_readNumbers 50 112 (nI i) (putY w κ Y) = some ((), putY w κ Y') ∧ RN Y Y' i ∧ St Y' (q + 7) (bdF (σ d) q 7) ∧ (bdF (σ d) q 7 = none → Y'.2.1 7 (i + 0) = rdV (σ d) 0 (q + 0) 1 ∧ Y'.2.1 7 (i + 1) = rdV (σ d) 0 (q + 1) 1 ∧ Y'.2.1 7 (i + 2) = rdV (σ d) 0 (q + 2) 2 ∧ Y'.2.1 7 (i + 3) = rdV (σ d) 0 (q + 4) 3) := by
  obtain ⟨v0, A0, e0, s0, t0, u0⟩ := m_digits w κ hT (n := 1) (by decide) (q := q + 0) (by omega) hC hr hS
  have r0 : RN Y (yset A0 7 (i + 0) v0) i := (s0.rn i).trans (yset_rn A0 i (i + 0) v0 (by omega) (by omega))
  have c0 : Cp σ (yset A0 7 (i + 0) v0) := (hC).rn r0
  have h0 : (yset A0 7 (i + 0) v0).1 2 = nI d := (r0.1 2 (by decide) (by decide)).trans hr
  have w0 : St (yset A0 7 (i + 0) v0) (q + 1) _ := (show q + 0 + 1 = q + 1 by omega) ▸ t0
  obtain ⟨v1, A1, e1, s1, t1, u1⟩ := m_digits w κ hT (n := 1) (by decide) (q := q + 1) (by omega) c0 h0 w0
  have r1 : RN (yset A0 7 (i + 0) v0) (yset A1 7 (i + 1) v1) i := (s1.rn i).trans (yset_rn A1 i (i + 1) v1 (by omega) (by omega))
  have c1 : Cp σ (yset A1 7 (i + 1) v1) := (c0).rn r1
  have h1 : (yset A1 7 (i + 1) v1).1 2 = nI d := (r1.1 2 (by decide) (by decide)).trans h0
  have w1 : St (yset A1 7 (i + 1) v1) (q + 2) _ := (show q + 1 + 1 = q + 2 by omega) ▸ t1
  obtain ⟨v2, A2, e2, s2, t2, u2⟩ := m_digits w κ hT (n := 2) (by decide) (q := q + 2) (by omega) c1 h1 w1
  have r2 : RN (yset A1 7 (i + 1) v1) (yset A2 7 (i + 2) v2) i := (s2.rn i).trans (yset_rn A2 i (i + 2) v2 (by omega) (by omega))
  have c2 : Cp σ (yset A2 7 (i + 2) v2) := (c1).rn r2
  have h2 : (yset A2 7 (i + 2) v2).1 2 = nI d := (r2.1 2 (by decide) (by decide)).trans h1
  have w2 : St (yset A2 7 (i + 2) v2) (q + 4) _ := (show q + 2 + 2 = q + 4 by omega) ▸ t2
  obtain ⟨v3, A3, e3, s3, t3, u3⟩ := m_digits w κ hT (n := 3) (by decide) (q := q + 4) (by omega) c2 h2 w2
  have r3 : RN (yset A2 7 (i + 2) v2) (yset A3 7 (i + 3) v3) i := (s3.rn i).trans (yset_rn A3 i (i + 3) v3 (by omega) (by omega))
  have c3 : Cp σ (yset A3 7 (i + 3) v3) := (c2).rn r3
  have h3 : (yset A3 7 (i + 3) v3).1 2 = nI d := (r3.1 2 (by decide) (by decide)).trans h2
  have w3 : St (yset A3 7 (i + 3) v3) (q + 7) _ := (show q + 4 + 3 = q + 7 by omega) ▸ t3
  have hb : orO (orO (orO (orO (none) (bdF (σ d) (q + 0) 1)) (bdF (σ d) (q + 1) 1)) (bdF (σ d) (q + 2) 2)) (bdF (σ d) (q + 4) 3) = bdF (σ d) q 7 := by
    rw [show bdF (σ d) q 7 = bdF (σ d) (q + 0) 7 from rfl]
    rw [show bdF (σ d) (q + 0) 7 = orO (bdF (σ d) (q + 0) 1) (bdF (σ d) (q + 1) 6) from bd_add (σ d) 1 6 (q + 0)]
    rw [show bdF (σ d) (q + 1) 6 = orO (bdF (σ d) (q + 1) 1) (bdF (σ d) (q + 2) 5) from bd_add (σ d) 1 5 (q + 1)]
    rw [show bdF (σ d) (q + 2) 5 = orO (bdF (σ d) (q + 2) 2) (bdF (σ d) (q + 4) 3) from bd_add (σ d) 2 3 (q + 2)]
    simp only [orO_assoc]
    rfl
  refine ⟨(yset A3 7 (i + 3) v3), ?_, (((r0).trans r1).trans r2).trans r3, hb ▸ w3, fun hn => ?_⟩
  · have q0 : nI i = nI (i + 0) := rfl
    have g1 : nI i + 1 = nI (i + 1) := nI_add i 1
    have g2 : nI i + 2 = nI (i + 2) := nI_add i 2
    have g3 : nI i + 3 = nI (i + 3) := nI_add i 3
    have z1 : (1 : Int32) = nI 1 := rfl
    have k1 : ∀ (y : aY), sA (putY w κ y) 68 (nI i) = sA (putY w κ y) 68 (nI (i + 0)) := fun _ => rfl
    have e0 : f_X4_readDigits 50 1 (putY w κ Y) = some (v0, putY w κ A0) := e0
    have e1 : f_X4_readDigits 50 1 (putY w κ (yset A0 7 (i + 0) v0)) = some (v1, putY w κ A1) := e1
    have e2 : f_X4_readDigits 50 2 (putY w κ (yset A1 7 (i + 1) v1)) = some (v2, putY w κ A2) := e2
    have e3 : f_X4_readDigits 50 3 (putY w κ (yset A2 7 (i + 2) v2)) = some (v3, putY w κ A3) := e3
    unfold f_X4_readNumbers
    simp only [c_X4_readNumbers_17, c_X4_readNumbers_39, c_X4_readNumbers_52, c_X4_readNumbers_70, c_X4_readNumbers_83, gI_Y0, gR_Y1, gR_Y2, gR_Y3, gR_Y4, gR_Y5, gI_Y6, gR_Y7, gR_Y8, gR_Y9, gR_Y10, gI_Y11, gI_Y12, gR_Y13, gR_Y14, gR_Y15, gR_Y16, gR_Y17, gR_Y18, gI_Y19, gI_Y20, gI_Y21, gI_Y22, gI_Y23, gR_Y24, gR_Y25, gR_Y26, gR_Y27, gR_Y28, gI_Y29, gI_Y30, gI_Y31, gR_Y33, gR_Y34, gI_Y35, gR_Y36, cV_Y, bk_some, bind_some', zb_0, zb_1, zb_or, cc_or, kset_1, kset_21, kint_1, kint_21, kint_22, putY_moved, k1, g1, g2, g3, e0, e1, e2, e3, sA_Y68 w κ _ (show i + 0 < 204 by omega), sA_Y68 w κ _ (show i + 1 < 204 by omega), sA_Y68 w κ _ (show i + 2 < 204 by omega), sA_Y68 w κ _ (show i + 3 < 204 by omega), show ¬ (112 : Int32) = 98 by decide, show ¬ (112 : Int32) = 99 by decide, show ¬ (112 : Int32) = 100 by decide, show ¬ (112 : Int32) = 103 by decide, show ¬ (112 : Int32) = 117 by decide, if_true, if_false, not_true_eq_false, not_false_eq_true, Bool.false_eq_true, Bool.true_eq_false, reduceIte, ite_true, ite_false]
  · rw [← hb] at hn
    have n3 := hn
    have n2 := (orO_l n3)
    have n1 := (orO_l n2)
    have n0 := (orO_l n1)
    have m0 : (yset A0 7 (i + 0) v0).2.1 7 (i + 0) = rdV (σ d) 0 (q + 0) 1 := (yset_at _ _ _ _).trans (u0 n0)
    have m0_1 : (yset A1 7 (i + 1) v1).2.1 7 (i + 0) = rdV (σ d) 0 (q + 0) 1 := (yset_oth A1 7 (i + 1) v1 (by omega)).trans ((congrFun (congrFun (congrArg Prod.fst s1.1) 7) (i + 0)).trans m0)
    have m0_2 : (yset A2 7 (i + 2) v2).2.1 7 (i + 0) = rdV (σ d) 0 (q + 0) 1 := (yset_oth A2 7 (i + 2) v2 (by omega)).trans ((congrFun (congrFun (congrArg Prod.fst s2.1) 7) (i + 0)).trans m0_1)
    have m0_3 : (yset A3 7 (i + 3) v3).2.1 7 (i + 0) = rdV (σ d) 0 (q + 0) 1 := (yset_oth A3 7 (i + 3) v3 (by omega)).trans ((congrFun (congrFun (congrArg Prod.fst s3.1) 7) (i + 0)).trans m0_2)
    have m1 : (yset A1 7 (i + 1) v1).2.1 7 (i + 1) = rdV (σ d) 0 (q + 1) 1 := (yset_at _ _ _ _).trans (u1 n1)
    have m1_2 : (yset A2 7 (i + 2) v2).2.1 7 (i + 1) = rdV (σ d) 0 (q + 1) 1 := (yset_oth A2 7 (i + 2) v2 (by omega)).trans ((congrFun (congrFun (congrArg Prod.fst s2.1) 7) (i + 1)).trans m1)
    have m1_3 : (yset A3 7 (i + 3) v3).2.1 7 (i + 1) = rdV (σ d) 0 (q + 1) 1 := (yset_oth A3 7 (i + 3) v3 (by omega)).trans ((congrFun (congrFun (congrArg Prod.fst s3.1) 7) (i + 1)).trans m1_2)
    have m2 : (yset A2 7 (i + 2) v2).2.1 7 (i + 2) = rdV (σ d) 0 (q + 2) 2 := (yset_at _ _ _ _).trans (u2 n2)
    have m2_3 : (yset A3 7 (i + 3) v3).2.1 7 (i + 2) = rdV (σ d) 0 (q + 2) 2 := (yset_oth A3 7 (i + 3) v3 (by omega)).trans ((congrFun (congrFun (congrArg Prod.fst s3.1) 7) (i + 2)).trans m2)
    have m3 : (yset A3 7 (i + 3) v3).2.1 7 (i + 3) = rdV (σ d) 0 (q + 4) 3 := (yset_at _ _ _ _).trans (u3 n3)
    exact ⟨m0_3, m1_3, m2_3, m3⟩
theorem rn_117 (w : aW) (κ : aK) {σ : Nat → aS} {d N : Nat} (hT : Txt σ d N) {q i : Nat} {Y : aY} (hq : q < 900) (hi : i + 4 ≤ 204) (hC : Cp σ Y) (hr : Y.1 2 = nI d) (hS : St Y q none) : ∃ Y', f_X4_readNumbers 50 117 (nI i) (putY w κ Y) = some ((), putY w κ Y') ∧ RN Y Y' i ∧ St Y' (q + 1) (bdF (σ d) q 1) ∧ (bdF (σ d) q 1 = none → Y'.2.1 7 (i + 0) = rdV (σ d) 0 (q + 0) 1) := by
  obtain ⟨v0, A0, e0, s0, t0, u0⟩ := m_digits w κ hT (n := 1) (by decide) (q := q + 0) (by omega) hC hr hS
  have r0 : RN Y (yset A0 7 (i + 0) v0) i := (s0.rn i).trans (yset_rn A0 i (i + 0) v0 (by omega) (by omega))
  have c0 : Cp σ (yset A0 7 (i + 0) v0) := (hC).rn r0
  have h0 : (yset A0 7 (i + 0) v0).1 2 = nI d := (r0.1 2 (by decide) (by decide)).trans hr
  have w0 : St (yset A0 7 (i + 0) v0) (q + 1) _ := (show q + 0 + 1 = q + 1 by omega) ▸ t0
  have hb : orO (none) (bdF (σ d) (q + 0) 1) = bdF (σ d) q 1 := by
    rw [show bdF (σ d) q 1 = bdF (σ d) (q + 0) 1 from rfl]
    rfl
  refine ⟨(yset A0 7 (i + 0) v0), ?_, r0, hb ▸ w0, fun hn => ?_⟩
  · have q0 : nI i = nI (i + 0) := rfl
    have g1 : nI i + 1 = nI (i + 1) := nI_add i 1
    have g2 : nI i + 2 = nI (i + 2) := nI_add i 2
    have g3 : nI i + 3 = nI (i + 3) := nI_add i 3
    have z1 : (1 : Int32) = nI 1 := rfl
    have k1 : ∀ (y : aY), sA (putY w κ y) 68 (nI i) = sA (putY w κ y) 68 (nI (i + 0)) := fun _ => rfl
    have e0 : f_X4_readDigits 50 1 (putY w κ Y) = some (v0, putY w κ A0) := e0
    unfold f_X4_readNumbers
    simp only [c_X4_readNumbers_17, c_X4_readNumbers_39, c_X4_readNumbers_52, c_X4_readNumbers_70, c_X4_readNumbers_83, gI_Y0, gR_Y1, gR_Y2, gR_Y3, gR_Y4, gR_Y5, gI_Y6, gR_Y7, gR_Y8, gR_Y9, gR_Y10, gI_Y11, gI_Y12, gR_Y13, gR_Y14, gR_Y15, gR_Y16, gR_Y17, gR_Y18, gI_Y19, gI_Y20, gI_Y21, gI_Y22, gI_Y23, gR_Y24, gR_Y25, gR_Y26, gR_Y27, gR_Y28, gI_Y29, gI_Y30, gI_Y31, gR_Y33, gR_Y34, gI_Y35, gR_Y36, cV_Y, bk_some, bind_some', zb_0, zb_1, zb_or, cc_or, kset_1, kset_21, kint_1, kint_21, kint_22, putY_moved, k1, g1, g2, g3, e0, sA_Y68 w κ _ (show i + 0 < 204 by omega), show ¬ (117 : Int32) = 98 by decide, show ¬ (117 : Int32) = 99 by decide, show ¬ (117 : Int32) = 100 by decide, show ¬ (117 : Int32) = 103 by decide, show ¬ (117 : Int32) = 112 by decide, if_true, if_false, not_true_eq_false, not_false_eq_true, Bool.false_eq_true, Bool.true_eq_false, reduceIte, ite_true, ite_false]
  · rw [← hb] at hn
    have n0 := hn
    have m0 : (yset A0 7 (i + 0) v0).2.1 7 (i + 0) = rdV (σ d) 0 (q + 0) 1 := (yset_at _ _ _ _).trans (u0 n0)
    exact m0
