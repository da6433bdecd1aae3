/-! PURE: copy and two, at both sides -/
theorem S_ia (w : aW) (X : aX) {d : Nat} (hd : d < 8) : a_ia (putX w X) (34 + 2 * d + 1) = some (100, (X.2.2.2.2.1 d).2) := by
  rw [X_sh w X hd]; exact ia_S (s_lt hd) _
theorem S_cp (w : aW) (X : aX) {d e i j n : Nat} (hd : d < 8) (he : e < 8) (hi : i + n ≤ 100) (hj : j + n ≤ 100) : cpI (putX w X) (34 + 2 * d + 1) (nI i) (34 + 2 * e + 1) (nI j) (nI n) = some (putX w (xsh X e (sel (X.2.2.2.2.1 e) (va_cpy (X.2.2.2.2.1 d).2 (X.2.2.2.2.1 e).2 i j n)))) := by
  unfold cpI
  rw [S_ia w X hd, S_ia w X he]
  simp only [Option.bind_some]
  rw [nI_clamp (by omega), nI_clamp (by omega), nI_clamp (by omega), if_neg]
  · congr 1
    conv => lhs; rw [X_sh w X he]
    rw [up_S, X_sh' w X he]
  · rintro (h | h | h | h | h)
    · exact nI_pos (by omega) h
    · exact nI_pos (by omega) h
    · exact nI_pos (by omega) h
    · omega
    · omega
def copyK (x i y j n : Int32) (σ : Nat → aS) : Int32 × (Nat → aS) :=
  if inR x 0 7 = true then (if inR y 0 7 = true then (if (σ (ix x)).1 0 = 0 then (-11, σ) else if (σ (ix y)).1 0 = 0 then (-11, σ) else if ¬ (σ (ix x)).1 0 = 2 then (-12, σ) else if ¬ (σ (ix y)).1 0 = 2 then (-12, σ) else if ¬ (σ (ix x)).1 3 = (σ (ix y)).1 3 then (-12, σ) else if strB (σ (ix x)) i n = true then (if strB (σ (ix y)) j n = true then (n, sig σ (ix y) (sel (σ (ix y)) (va_cpy (σ (ix x)).2 (σ (ix y)).2 (ix i) (ix j) (ix n)))) else (-13, σ)) else (-13, σ)) else (-1, σ)) else (-1, σ)
theorem str_out {ν : aS} {N : Nat} (hN : N ≤ 100) (he : ν.1 4 = nI N) {i n : Int32} (h : strB ν i n = true) : ∃ a m, a + m ≤ N ∧ i = nI a ∧ n = nI m := by
  unfold strB at h
  rw [he, Bool.and_eq_true, Bool.and_eq_true] at h
  obtain ⟨h1, h2, h3⟩ := h
  obtain ⟨a, ha, rfl⟩ := inR_nI (by omega) h2
  have h1' : ¬ n < 0 := of_decide_eq_false (Bool.eq_false_iff.mpr (fun z => by rw [z] at h1; cases h1))
  have h3' : ¬ nI N - nI a < n := of_decide_eq_false (Bool.eq_false_iff.mpr (fun z => by rw [z] at h3; cases h3))
  rw [nI_sub ha] at h3'
  obtain ⟨m, hm, rfl⟩ := nI_of h1'
  refine ⟨a, m, ?_, rfl, rfl⟩
  have : ¬ N - a < m := fun z => h3' ((nI_ltI (by omega) hm).mpr z)
  omega
theorem str_in {ν : aS} {N : Nat} (hN : N ≤ 100) (he : ν.1 4 = nI N) {a m : Nat} (h : a + m ≤ N) : strB ν (nI a) (nI m) = true := by
  unfold strB
  rw [he, inR_of (show a ≤ N by omega) (by omega), nI_sub (by omega), decide_eq_false (nI_pos (show m < 2 ^ 31 by omega)), decide_eq_false (fun z => by
    have := (nI_ltI (a := N - a) (b := m) (by omega) (by omega)).mp z
    omega)]
  rfl
theorem x_copy (w : aW) (X : aX) (hS : ∀ d, d < 8 → WFs (X.2.2.2.2.1 d)) (x i y j n : Int32) : f_X3_copy 0 x i y j n (putX w X) = some ((copyK x i y j n X.2.2.2.2.1).1, putX w (xsig X (copyK x i y j n X.2.2.2.2.1).2)) := by
  unfold f_X3_copy copyK
  by_cases h1 : inR x 0 7 = true
  · obtain ⟨d, hd, rfl⟩ := in7 h1
    by_cases h2 : inR y 0 7 = true
    · obtain ⟨e, he, rfl⟩ := in7 h2
      by_cases h3 : (X.2.2.2.2.1 d).1 0 = 0
      · simp only [h1, h2, h3, gR_X0, gR_X1, gR_X2, gI_X3, gR_X4, gR_X5, gR_X6, cV_X, x_think, xmind_1, xmind_0, xmind_2, xnow_0, xnow_1, xnow_2, bk_some, bind_some', zb_0, zb_1, zb_or, cc_or, x_shelfAt w X hd, x_shelfAt w X he, oc_some, S_gI0 w X hd, S_gI0 w X he, ix7 hd, ix7 he, xsig_self, if_true, if_false, not_true_eq_false, not_false_eq_true, Bool.false_eq_true, Bool.true_eq_false, reduceIte, ite_true, ite_false]
      by_cases h4 : (X.2.2.2.2.1 e).1 0 = 0
      · simp only [h1, h2, h3, h4, gR_X0, gR_X1, gR_X2, gI_X3, gR_X4, gR_X5, gR_X6, cV_X, x_think, xmind_1, xmind_0, xmind_2, xnow_0, xnow_1, xnow_2, bk_some, bind_some', zb_0, zb_1, zb_or, cc_or, x_shelfAt w X hd, x_shelfAt w X he, oc_some, S_gI0 w X hd, S_gI0 w X he, ix7 hd, ix7 he, xsig_self, if_true, if_false, not_true_eq_false, not_false_eq_true, Bool.false_eq_true, Bool.true_eq_false, reduceIte, ite_true, ite_false]
      by_cases h5 : (X.2.2.2.2.1 d).1 0 = 2
      · by_cases h6 : (X.2.2.2.2.1 e).1 0 = 2
        · by_cases h7 : (X.2.2.2.2.1 d).1 3 = (X.2.2.2.2.1 e).1 3
          · by_cases h8 : strB (X.2.2.2.2.1 d) i n = true
            · by_cases h9 : strB (X.2.2.2.2.1 e) j n = true
              · obtain ⟨N, hN, hz⟩ := (hS d hd).2.1
                obtain ⟨N', hN', hz'⟩ := (hS e he).2.1
                have h8' := h8
                have h9' := h9
                obtain ⟨a, m, ham, rfl, rfl⟩ := str_out hN hz h8'
                obtain ⟨c, m', hcm, rfl, hmm⟩ := str_out hN' hz' h9'
                have hm5 : ∀ M, M ≤ 100 → ∀ q, q + m ≤ M → m < 2 ^ 31 := fun M _ q _ => by omega
                have hmN := hm5 N hN a ham
                have hcN : c + m ≤ N' := by
                  by_cases hmb : m' < 2 ^ 31
                  · rw [nI_eq hmN hmb] at hmm; omega
                  · omega
                simp only [h1, h2, h3, h4, h5, h6, h7, h8, h9, show ¬ (2 : Int32) = 0 by decide, gR_X0, gR_X1, gR_X2, gI_X3, gR_X4, gR_X5, gR_X6, cV_X, x_think, xmind_1, xmind_0, xmind_2, xnow_0, xnow_1, xnow_2, bk_some, bind_some', zb_0, zb_1, zb_or, cc_or, x_shelfAt w X hd, x_shelfAt w X he, oc_some, S_gI0 w X hd, S_gI0 w X he, S_gI3 w X hd, S_gI3 w X he, S_cV w X hd, S_cV w X he, S_hasStretch w X hd, S_hasStretch w X he, S_gR5 w X hd, S_gR5 w X he, S_cp w X hd he (show a + m ≤ 100 by omega) (show c + m ≤ 100 by omega), ix7 hd, ix7 he, ix_nI (show a < 2 ^ 31 by omega), ix_nI (show c < 2 ^ 31 by omega), ix_nI (show m < 2 ^ 31 by omega), xsh_sig, if_true, if_false, not_true_eq_false, not_false_eq_true, Bool.false_eq_true, Bool.true_eq_false, reduceIte, ite_true, ite_false]
              · have h9 := Bool.eq_false_iff.mpr h9
                simp only [h1, h2, h3, h4, h5, h6, h7, h8, h9, show ¬ (2 : Int32) = 0 by decide, gR_X0, gR_X1, gR_X2, gI_X3, gR_X4, gR_X5, gR_X6, cV_X, x_think, xmind_1, xmind_0, xmind_2, xnow_0, xnow_1, xnow_2, bk_some, bind_some', zb_0, zb_1, zb_or, cc_or, x_shelfAt w X hd, x_shelfAt w X he, oc_some, S_gI0 w X hd, S_gI0 w X he, S_gI3 w X hd, S_gI3 w X he, S_cV w X hd, S_cV w X he, S_hasStretch w X hd, S_hasStretch w X he, ix7 hd, ix7 he, xsig_self, if_true, if_false, not_true_eq_false, not_false_eq_true, Bool.false_eq_true, Bool.true_eq_false, reduceIte, ite_true, ite_false]
            · have h8 := Bool.eq_false_iff.mpr h8
              simp only [h1, h2, h3, h4, h5, h6, h7, h8, show ¬ (2 : Int32) = 0 by decide, gR_X0, gR_X1, gR_X2, gI_X3, gR_X4, gR_X5, gR_X6, cV_X, x_think, xmind_1, xmind_0, xmind_2, xnow_0, xnow_1, xnow_2, bk_some, bind_some', zb_0, zb_1, zb_or, cc_or, x_shelfAt w X hd, x_shelfAt w X he, oc_some, S_gI0 w X hd, S_gI0 w X he, S_gI3 w X hd, S_gI3 w X he, S_cV w X hd, S_cV w X he, S_hasStretch w X hd, ix7 hd, ix7 he, xsig_self, if_true, if_false, not_true_eq_false, not_false_eq_true, Bool.false_eq_true, Bool.true_eq_false, reduceIte, ite_true, ite_false]
          · simp only [h1, h2, h3, h4, h5, h6, h7, show ¬ (2 : Int32) = 0 by decide, gR_X0, gR_X1, gR_X2, gI_X3, gR_X4, gR_X5, gR_X6, cV_X, x_think, xmind_1, xmind_0, xmind_2, xnow_0, xnow_1, xnow_2, bk_some, bind_some', zb_0, zb_1, zb_or, cc_or, x_shelfAt w X hd, x_shelfAt w X he, oc_some, S_gI0 w X hd, S_gI0 w X he, S_gI3 w X hd, S_gI3 w X he, ix7 hd, ix7 he, xsig_self, if_true, if_false, not_true_eq_false, not_false_eq_true, Bool.false_eq_true, Bool.true_eq_false, reduceIte, ite_true, ite_false]
        · simp only [h1, h2, h3, h4, h5, h6, show ¬ (2 : Int32) = 0 by decide, gR_X0, gR_X1, gR_X2, gI_X3, gR_X4, gR_X5, gR_X6, cV_X, x_think, xmind_1, xmind_0, xmind_2, xnow_0, xnow_1, xnow_2, bk_some, bind_some', zb_0, zb_1, zb_or, cc_or, x_shelfAt w X hd, x_shelfAt w X he, oc_some, S_gI0 w X hd, S_gI0 w X he, ix7 hd, ix7 he, xsig_self, if_true, if_false, not_true_eq_false, not_false_eq_true, Bool.false_eq_true, Bool.true_eq_false, reduceIte, ite_true, ite_false]
      · simp only [h1, h2, h3, h4, h5, gR_X0, gR_X1, gR_X2, gI_X3, gR_X4, gR_X5, gR_X6, cV_X, x_think, xmind_1, xmind_0, xmind_2, xnow_0, xnow_1, xnow_2, bk_some, bind_some', zb_0, zb_1, zb_or, cc_or, x_shelfAt w X hd, x_shelfAt w X he, oc_some, S_gI0 w X hd, S_gI0 w X he, ix7 hd, ix7 he, xsig_self, if_true, if_false, not_true_eq_false, not_false_eq_true, Bool.false_eq_true, Bool.true_eq_false, reduceIte, ite_true, ite_false]
    · have h2 := Bool.eq_false_iff.mpr h2
      simp only [h1, h2, gR_X0, gR_X1, gR_X2, gI_X3, gR_X4, gR_X5, gR_X6, cV_X, x_think, xmind_1, xmind_0, xmind_2, xnow_0, xnow_1, xnow_2, bk_some, bind_some', zb_0, zb_1, zb_or, cc_or, x_shelfAt w X hd, x_shelfNo w X h2, oc_some, oc_none, xsig_self, if_true, if_false, not_true_eq_false, not_false_eq_true, Bool.false_eq_true, Bool.true_eq_false, reduceIte, ite_true, ite_false]
  · have h1 := Bool.eq_false_iff.mpr h1
    by_cases h2 : inR y 0 7 = true
    · obtain ⟨e, he, rfl⟩ := in7 h2
      simp only [h1, h2, gR_X0, gR_X1, gR_X2, gI_X3, gR_X4, gR_X5, gR_X6, cV_X, x_think, xmind_1, xmind_0, xmind_2, xnow_0, xnow_1, xnow_2, bk_some, bind_some', zb_0, zb_1, zb_or, cc_or, x_shelfNo w X h1, x_shelfAt w X he, oc_none, oc_some, xsig_self, if_true, if_false, not_true_eq_false, not_false_eq_true, Bool.false_eq_true, Bool.true_eq_false, reduceIte, ite_true, ite_false]
    · have h2 := Bool.eq_false_iff.mpr h2
      simp only [h1, h2, gR_X0, gR_X1, gR_X2, gI_X3, gR_X4, gR_X5, gR_X6, cV_X, x_think, xmind_1, xmind_0, xmind_2, xnow_0, xnow_1, xnow_2, bk_some, bind_some', zb_0, zb_1, zb_or, cc_or, x_shelfNo w X h1, x_shelfNo w X h2, oc_none, xsig_self, if_true, if_false, not_true_eq_false, not_false_eq_true, Bool.false_eq_true, Bool.true_eq_false, reduceIte, ite_true, ite_false]
def yput (y : aY) (F : Nat → Int64) (p n i : Nat) : aY := yrow y (fun z => if p + i ≤ z ∧ z < p + n then F (z - p) else y.2.2.2.1 z)
theorem m_copy2 (w : aW) (κ : aK) (x1 x2 : Int32) {e j n : Nat} (he : e < 8) (hj : j + n ≤ 100) : ∀ (m i : Nat) (y : aY) (f : Nat), i + m = n → m < f → loop2 (c_X4_copy_174 50 x1 x2 (nI e) (nI j) (nI n)) f (nI i) (putY w κ y) = some (nI n, putY w κ (yput y y.2.2.2.2.1 (100 * e + j) n i))
  | 0, i, y, f + 1, hm, _ => by
    have : i = n := by omega
    subst this
    show c_X4_copy_174 50 x1 x2 (nI e) (nI j) (nI i) (loop2 (c_X4_copy_174 50 x1 x2 (nI e) (nI j) (nI i)) f) (nI i) (putY w κ y) = _
    simp only [c_X4_copy_174, Int32.le_refl, if_true, if_false, not_true_eq_false, not_false_eq_true, Bool.false_eq_true, Bool.true_eq_false, reduceIte, ite_true, ite_false]
    rw [show yput y y.2.2.2.2.1 (100 * e + j) i i = y from yrow_self (fun z => if_neg (by omega))]
  | m + 1, i, y, f + 1, hm, hf => by
    show c_X4_copy_174 50 x1 x2 (nI e) (nI j) (nI n) (loop2 (c_X4_copy_174 50 x1 x2 (nI e) (nI j) (nI n)) f) (nI i) (putY w κ y) = _
    have ih := m_copy2 w κ x1 x2 he hj m (i + 1) (yrow y (vp_updL y.2.2.2.1 (100 * e + j + i) (y.2.2.2.2.1 i))) f (by omega) (by omega)
    simp only [c_X4_copy_174, le_nIb (show n < 2 ^ 31 by omega) (show i < 2 ^ 31 by omega) (show i < n by omega), h100 e he, nI_add, gI_Y0, gR_Y1, gR_Y2, gR_Y3, gR_Y4, gR_Y5, gI_Y6, gR_Y7, gR_Y8, gR_Y9, gR_Y10, gI_Y11, gI_Y12, gR_Y13, gR_Y14, gR_Y15, gR_Y16, gR_Y17, gR_Y18, gI_Y19, gI_Y20, gI_Y21, gI_Y22, gI_Y23, gR_Y24, gR_Y25, gR_Y26, gR_Y27, gR_Y28, gI_Y29, gI_Y30, gI_Y31, gR_Y33, gR_Y34, gI_Y35, gR_Y36, cV_Y, bk_some, bind_some', zb_0, zb_1, zb_or, cc_or, kset_1, kset_21, kint_1, kint_21, kint_22, putY_moved, gL_Y73 w κ y (show i < 100 by omega), sL_Y65 w κ y (show 100 * e + j + i < 800 by omega), nI_1, if_true, if_false, not_true_eq_false, not_false_eq_true, Bool.false_eq_true, Bool.true_eq_false, reduceIte, ite_true, ite_false]
    refine Eq.trans ih (congrArg (fun f => some (nI n, putY w κ (yrow y f))) (funext fun z => ?_))
    show (if 100 * e + j + (i + 1) ≤ z ∧ z < 100 * e + j + n then y.2.2.2.2.1 (z - (100 * e + j)) else (if z = 100 * e + j + i then y.2.2.2.2.1 i else y.2.2.2.1 z)) = _
    by_cases h : z = 100 * e + j + i
    · subst h
      rw [if_neg (by omega), if_pos rfl, if_pos (by omega), show 100 * e + j + i - (100 * e + j) = i by omega]
    · by_cases h2 : 100 * e + j + (i + 1) ≤ z ∧ z < 100 * e + j + n
      · rw [if_pos h2, if_pos (by omega)]
      · rw [if_neg h2, if_neg h, if_neg (by omega)]
def ybtw (y : aY) (p n i : Nat) : aY := ybet y (fun z => if i ≤ z ∧ z < n then y.2.2.2.1 (p + z) else y.2.2.2.2.1 z)
theorem ybet_self {y : aY} {f : Nat → Int64} (h : ∀ z, f z = y.2.2.2.2.1 z) : ybet y f = y := by
  unfold ybet
  rw [show f = y.2.2.2.2.1 from funext h]
theorem m_copy1 (w : aW) (κ : aK) {d a e j n : Nat} (hd : d < 8) (ha : a + n ≤ 100) (he : e < 8) (hj : j + n ≤ 100) : ∀ (m i : Nat) (y : aY) (f : Nat), i + m = n → m < f → loop2 (c_X4_copy_137 50 (nI d) (nI a) (nI e) (nI j) (nI n)) f (nI i) (putY w κ y) = some (nI n, putY w κ (yput (ybtw y (100 * d + a) n i) (ybtw y (100 * d + a) n i).2.2.2.2.1 (100 * e + j) n 0))
  | 0, i, y, f + 1, hm, _ => by
    have : i = n := by omega
    subst this
    show c_X4_copy_137 50 (nI d) (nI a) (nI e) (nI j) (nI i) (loop2 (c_X4_copy_137 50 (nI d) (nI a) (nI e) (nI j) (nI i)) f) (nI i) (putY w κ y) = _
    simp only [c_X4_copy_137, Int32.le_refl, if_true, if_false, not_true_eq_false, not_false_eq_true, Bool.false_eq_true, Bool.true_eq_false, reduceIte, ite_true, ite_false]
    rw [show ybtw y (100 * d + a) i i = y from ybet_self (fun z => if_neg (by omega))]
    exact m_copy2 w κ (nI d) (nI a) he hj i 0 y a_fuel (by omega) (show i < 1000 by omega)
  | m + 1, i, y, f + 1, hm, hf => by
    show c_X4_copy_137 50 (nI d) (nI a) (nI e) (nI j) (nI n) (loop2 (c_X4_copy_137 50 (nI d) (nI a) (nI e) (nI j) (nI n)) f) (nI i) (putY w κ y) = _
    have ih := m_copy1 w κ hd ha he hj m (i + 1) (ybet y (vp_updL y.2.2.2.2.1 i (y.2.2.2.1 (100 * d + a + i)))) f (by omega) (by omega)
    have hy : ybtw (ybet y (vp_updL y.2.2.2.2.1 i (y.2.2.2.1 (100 * d + a + i)))) (100 * d + a) n (i + 1) = ybtw y (100 * d + a) n i := by
      refine congrArg (fun f => ybet y f) (funext fun z => ?_)
      show (if i + 1 ≤ z ∧ z < n then y.2.2.2.1 (100 * d + a + z) else (if z = i then y.2.2.2.1 (100 * d + a + i) else y.2.2.2.2.1 z)) = _
      by_cases h : z = i
      · subst h
        rw [if_neg (by omega), if_pos rfl, if_pos (by omega)]
      · by_cases h2 : i + 1 ≤ z ∧ z < n
        · rw [if_pos h2, if_pos (by omega)]
        · rw [if_neg h2, if_neg h, if_neg (by omega)]
    rw [hy] at ih
    simp only [c_X4_copy_137, le_nIb (show n < 2 ^ 31 by omega) (show i < 2 ^ 31 by omega) (show i < n by omega), h100 d hd, nI_add, gI_Y0, gR_Y1, gR_Y2, gR_Y3, gR_Y4, gR_Y5, gI_Y6, gR_Y7, gR_Y8, gR_Y9, gR_Y10, gI_Y11, gI_Y12, gR_Y13, gR_Y14, gR_Y15, gR_Y16, gR_Y17, gR_Y18, gI_Y19, gI_Y20, gI_Y21, gI_Y22, gI_Y23, gR_Y24, gR_Y25, gR_Y26, gR_Y27, gR_Y28, gI_Y29, gI_Y30, gI_Y31, gR_Y33, gR_Y34, gI_Y35, gR_Y36, cV_Y, bk_some, bind_some', zb_0, zb_1, zb_or, cc_or, kset_1, kset_21, kint_1, kint_21, kint_22, putY_moved, gL_Y65 w κ y (show 100 * d + a + i < 800 by omega), sL_Y73 w κ y (show i < 100 by omega), nI_1, if_true, if_false, not_true_eq_false, not_false_eq_true, Bool.false_eq_true, Bool.true_eq_false, reduceIte, ite_true, ite_false]
    exact ih
/-- the model's own tests are those of the class -/
theorem str_model {ν : aS} {N : Nat} (hN : N ≤ 100) (he : ν.1 4 = nI N) (i n : Int32) : strB ν i n = (!decide (n < 0) && (!decide (i < 0) && !decide (nI N - n < i))) := by
  by_cases hn : n < 0
  · unfold strB
    rw [decide_eq_true hn, Bool.not_true, Bool.false_and, Bool.false_and]
  · obtain ⟨m, hm, rfl⟩ := nI_of hn
    rw [decide_eq_false hn, Bool.not_false, Bool.true_and]
    by_cases hi : i < 0
    · rw [decide_eq_true hi]
      unfold strB
      have : inR i 0 (ν.1 4) = false := by
        unfold inR
        rw [decide_eq_false (Int32.not_le.mpr hi)]
        rfl
      rw [this, Bool.false_and, Bool.and_false, Bool.not_true, Bool.false_and]
    · obtain ⟨a, ha, rfl⟩ := nI_of hi
      rw [decide_eq_false hi, Bool.not_false, Bool.true_and]
      have hsub : (nI N - nI m).toInt = (N : Int) - m := by
        rw [Int32.toInt_sub, nI_toInt (by omega), nI_toInt hm]
        rw [Int.bmod_def]
        omega
      by_cases h : a + m ≤ N
      · rw [str_in hN he h, decide_eq_false (fun z => by
          rw [Int32.lt_iff_toInt_lt, hsub, nI_toInt ha] at z
          omega)]
        rfl
      · rw [decide_eq_true (show nI N - nI m < nI a by
          rw [Int32.lt_iff_toInt_lt, hsub, nI_toInt ha]
          omega)]
        cases hc : strB ν (nI a) (nI m)
        · rfl
        · obtain ⟨a', m', h', e1, e2⟩ := str_out hN he hc
          rw [nI_eq ha (by omega)] at e1
          rw [nI_eq hm (by omega)] at e2
          omega
