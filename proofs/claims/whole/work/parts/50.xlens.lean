/-! PURE: the object in a world: three Mountains, eight shelves -/
abbrev aS : Type := (Nat → Int32) × (Nat → Int32)
abbrev aX : Type := aK × aK × aK × Int32 × (Nat → aS) × (Nat → Int32) × (Nat → Int32)
def putS (w : aW) (j : Nat) (ν : aS) : aW := fun i => if i = j then .inr (1, [.int (ν.1 0), .int (ν.1 1), .int (ν.1 2), .int (ν.1 3), .int (ν.1 4), .ref (j + 1)]) else if i = j + 1 then .inl (0, 100, .inl ν.2) else w i
def shf : Nat → Option Nat := fun d => if d < 8 then some (34 + 2 * d) else none
def putX (w : aW) (X : aX) : aW := fun i =>
  if i = 0 then .inr (2, [.ref 1, .ref 11, .ref 21, .int X.2.2.2.1, .ref 31, .ref 32, .ref 33])
  else if i ≤ 10 then putM w 1 X.1 i
  else if i ≤ 20 then putM w 11 X.2.1 i
  else if i ≤ 30 then putM w 21 X.2.2.1 i
  else if i = 31 then .inl (2, 8, .inr (.inr (.inr (.inr shf))))
  else if i = 32 then .inl (0, 4, .inl X.2.2.2.2.2.1)
  else if i = 33 then .inl (0, 4, .inl X.2.2.2.2.2.2)
  else if i ≤ 49 then putS w (34 + 2 * ((i - 34) / 2)) (X.2.2.2.2.1 ((i - 34) / 2)) i
  else w i
def xnow (X : aX) (κ : aK) : aX := (κ, X.2)
def xmind (X : aX) (κ : aK) : aX := (X.1, κ, X.2.2)
def xpict (X : aX) (κ : aK) : aX := (X.1, X.2.1, κ, X.2.2.2)
def xhp (X : aX) (h : Int32) : aX := (X.1, X.2.1, X.2.2.1, h, X.2.2.2.2)
def xsh (X : aX) (d : Nat) (ν : aS) : aX := (X.1, X.2.1, X.2.2.1, X.2.2.2.1, fun d' => if d' = d then ν else X.2.2.2.2.1 d', X.2.2.2.2.2)
def xone (X : aX) (f : Nat → Int32) : aX := (X.1, X.2.1, X.2.2.1, X.2.2.2.1, X.2.2.2.2.1, f, X.2.2.2.2.2.2)
def xoth (X : aX) (f : Nat → Int32) : aX := (X.1, X.2.1, X.2.2.1, X.2.2.2.1, X.2.2.2.2.1, X.2.2.2.2.2.1, f)
theorem putM_in (w w' : aW) (j : Nat) (κ : aK) {i : Nat} (h1 : j ≤ i) (h2 : i ≤ j + 9) : putM w j κ i = putM w' j κ i := by
  unfold putM
  by_cases h : i = j
  · rw [if_pos h, if_pos h]
  · rw [if_neg h, if_neg h, if_pos (by omega), if_pos (by omega)]
theorem putM_out (w : aW) (j : Nat) (κ : aK) {i : Nat} (h : i < j ∨ j + 9 < i) : putM w j κ i = w i := by
  unfold putM
  rw [if_neg (by omega), if_neg (by omega)]
theorem putM_ext (w : aW) (j : Nat) {κ κ' : aK} (h1 : κ.1 = κ'.1) (h2 : ∀ a, a < 3 → κ.2.1 a = κ'.2.1 a) (h3 : ∀ k, k < 9 → κ.2.2 k = κ'.2.2 k) : putM w j κ = putM w j κ' := by
  funext i
  unfold putM
  rw [h1, h2 0 (by decide), h2 1 (by decide), h2 2 (by decide)]
  by_cases h : i = j
  · rw [if_pos h, if_pos h]
  · rw [if_neg h, if_neg h]
    by_cases h4 : j < i ∧ i ≤ j + 9
    · rw [if_pos h4, if_pos h4, h3 (i - j - 1) (by omega)]
    · rw [if_neg h4, if_neg h4]
theorem X_now (w : aW) (X : aX) : putX w X = putM (putX w X) 1 X.1 := by
  funext i
  by_cases h : 1 ≤ i ∧ i ≤ 10
  · rw [putM_in _ w 1 X.1 h.1 (by omega)]
    unfold putX
    rw [if_neg (by omega), if_pos h.2]
  · rw [putM_out _ _ _ (by omega)]
theorem X_now' (w : aW) (X : aX) (κ : aK) : putM (putX w X) 1 κ = putX w (xnow X κ) := by
  funext i
  by_cases h : 1 ≤ i ∧ i ≤ 10
  · rw [putM_in _ w 1 κ h.1 (by omega)]
    unfold putX
    rw [if_neg (by omega), if_pos h.2]
    rfl
  · rw [putM_out _ _ _ (by omega)]
    unfold putX
    by_cases h0 : i = 0
    · rw [if_pos h0, if_pos h0]; rfl
    · have h1 : ¬ i ≤ 10 := by omega
      rw [if_neg h0, if_neg h0, if_neg h1, if_neg h1]
      rfl
theorem X_mind (w : aW) (X : aX) : putX w X = putM (putX w X) 11 X.2.1 := by
  funext i
  by_cases h : 11 ≤ i ∧ i ≤ 20
  · rw [putM_in _ w 11 X.2.1 h.1 (by omega)]
    unfold putX
    rw [if_neg (by omega), if_neg (by omega), if_pos h.2]
  · rw [putM_out _ _ _ (by omega)]
theorem X_mind' (w : aW) (X : aX) (κ : aK) : putM (putX w X) 11 κ = putX w (xmind X κ) := by
  funext i
  by_cases h : 11 ≤ i ∧ i ≤ 20
  · rw [putM_in _ w 11 κ h.1 (by omega)]
    unfold putX
    rw [if_neg (by omega), if_neg (by omega), if_pos h.2]
    rfl
  · rw [putM_out _ _ _ (by omega)]
    unfold putX
    by_cases h0 : i = 0
    · rw [if_pos h0, if_pos h0]; rfl
    · by_cases h1 : i ≤ 10
      · rw [if_neg h0, if_neg h0, if_pos h1, if_pos h1]; rfl
      · have h2 : ¬ i ≤ 20 := by omega
        rw [if_neg h0, if_neg h0, if_neg h1, if_neg h1, if_neg h2, if_neg h2]
        rfl
theorem X_pict (w : aW) (X : aX) : putX w X = putM (putX w X) 21 X.2.2.1 := by
  funext i
  by_cases h : 21 ≤ i ∧ i ≤ 30
  · rw [putM_in _ w 21 X.2.2.1 h.1 (by omega)]
    unfold putX
    rw [if_neg (by omega), if_neg (by omega), if_neg (by omega), if_pos h.2]
  · rw [putM_out _ _ _ (by omega)]
theorem X_pict' (w : aW) (X : aX) (κ : aK) : putM (putX w X) 21 κ = putX w (xpict X κ) := by
  funext i
  by_cases h : 21 ≤ i ∧ i ≤ 30
  · rw [putM_in _ w 21 κ h.1 (by omega)]
    unfold putX
    rw [if_neg (by omega), if_neg (by omega), if_neg (by omega), if_pos h.2]
    rfl
  · rw [putM_out _ _ _ (by omega)]
    unfold putX
    by_cases h0 : i = 0
    · rw [if_pos h0, if_pos h0]; rfl
    · by_cases h1 : i ≤ 10
      · rw [if_neg h0, if_neg h0, if_pos h1, if_pos h1]; rfl
      · by_cases h2 : i ≤ 20
        · rw [if_neg h0, if_neg h0, if_neg h1, if_neg h1, if_pos h2, if_pos h2]; rfl
        · have h3 : ¬ i ≤ 30 := by omega
          rw [if_neg h0, if_neg h0, if_neg h1, if_neg h1, if_neg h2, if_neg h2, if_neg h3, if_neg h3]
          rfl
theorem putS_in (w w' : aW) (j : Nat) (ν : aS) {i : Nat} (h : i = j ∨ i = j + 1) : putS w j ν i = putS w' j ν i := by
  unfold putS
  rcases h with h | h
  · rw [if_pos h, if_pos h]
  · have h0 : ¬ i = j := by omega
    rw [if_neg h0, if_neg h0, if_pos h, if_pos h]
theorem putS_out (w : aW) (j : Nat) (ν : aS) {i : Nat} (h : i ≠ j ∧ i ≠ j + 1) : putS w j ν i = w i := by
  unfold putS
  rw [if_neg h.1, if_neg h.2]
theorem X_sh (w : aW) (X : aX) {d : Nat} (hd : d < 8) : putX w X = putS (putX w X) (34 + 2 * d) (X.2.2.2.2.1 d) := by
  funext i
  by_cases h : i = 34 + 2 * d ∨ i = 34 + 2 * d + 1
  · rw [putS_in _ w _ _ h]
    have e : (i - 34) / 2 = d := by omega
    unfold putX
    rw [if_neg (by omega), if_neg (by omega), if_neg (by omega), if_neg (by omega), if_neg (by omega), if_neg (by omega), if_neg (by omega), if_pos (by omega), e]
  · rw [putS_out _ _ _ (by omega)]
theorem X_sh' (w : aW) (X : aX) {d : Nat} (hd : d < 8) (ν : aS) : putS (putX w X) (34 + 2 * d) ν = putX w (xsh X d ν) := by
  funext i
  by_cases h : i = 34 + 2 * d ∨ i = 34 + 2 * d + 1
  · rw [putS_in _ w _ _ h]
    have e : (i - 34) / 2 = d := by omega
    unfold putX
    rw [if_neg (by omega), if_neg (by omega), if_neg (by omega), if_neg (by omega), if_neg (by omega), if_neg (by omega), if_neg (by omega), if_pos (by omega), e]
    show _ = putS w _ (if d = d then ν else _) i
    rw [if_pos rfl]
  · rw [putS_out _ _ _ (by omega)]
    unfold putX
    have e : i ≤ 49 → 33 < i → (i - 34) / 2 ≠ d := by omega
    by_cases h0 : i = 0
    · rw [if_pos h0, if_pos h0]; rfl
    · rw [if_neg h0, if_neg h0]
      by_cases h1 : i ≤ 10
      · rw [if_pos h1, if_pos h1]; rfl
      · rw [if_neg h1, if_neg h1]
        by_cases h2 : i ≤ 20
        · rw [if_pos h2, if_pos h2]; rfl
        · rw [if_neg h2, if_neg h2]
          by_cases h3 : i ≤ 30
          · rw [if_pos h3, if_pos h3]; rfl
          · rw [if_neg h3, if_neg h3]
            by_cases h4 : i = 31
            · rw [if_pos h4, if_pos h4]
            · rw [if_neg h4, if_neg h4]
              by_cases h5 : i = 32
              · rw [if_pos h5, if_pos h5]; rfl
              · rw [if_neg h5, if_neg h5]
                by_cases h6 : i = 33
                · rw [if_pos h6, if_pos h6]; rfl
                · rw [if_neg h6, if_neg h6]
                  by_cases h7 : i ≤ 49
                  · rw [if_pos h7, if_pos h7]
                    show _ = putS w _ (if (i - 34) / 2 = d then ν else _) i
                    rw [if_neg (e h7 (by omega))]
                  · rw [if_neg h7, if_neg h7]
theorem gR_X0 (w : aW) (X : aX) : gR 2 (putX w X) 0 0 = some 1 := Eq.trans rfl rfl
theorem gR_X1 (w : aW) (X : aX) : gR 2 (putX w X) 0 1 = some 11 := Eq.trans rfl rfl
theorem gR_X2 (w : aW) (X : aX) : gR 2 (putX w X) 0 2 = some 21 := Eq.trans rfl rfl
theorem gI_X3 (w : aW) (X : aX) : gI 2 (putX w X) 0 3 = some X.2.2.2.1 := Eq.trans rfl rfl
theorem gR_X4 (w : aW) (X : aX) : gR 2 (putX w X) 0 4 = some 31 := Eq.trans rfl rfl
theorem gR_X5 (w : aW) (X : aX) : gR 2 (putX w X) 0 5 = some 32 := Eq.trans rfl rfl
theorem gR_X6 (w : aW) (X : aX) : gR 2 (putX w X) 0 6 = some 33 := Eq.trans rfl rfl
theorem cV_X {α : Type} (w : aW) (X : aX) (x : Option α) : cV 2 (putX w X) 0 x = x := Eq.trans rfl rfl
theorem gQ_X (w : aW) (X : aX) {d : Nat} (hd : d < 8) : gQ (putX w X) 31 (nI d) = some (some (34 + 2 * d)) := by
  unfold gQ
  rw [show a_qa (putX w X) 31 = some (8, shf) from rfl]
  simp only [Option.bind_some]
  rw [if_neg (ix_ok hd (by decide)), nI_clamp (by omega)]
  unfold shf
  rw [if_pos hd]
theorem sF_X3 (w : aW) (X : aX) (h : Int32) : sF 2 (putX w X) 0 3 (.int h) = some (putX w (xhp X h)) := by
  show some (a_up (putX w X) 0 (.inr (2, [.ref 1, .ref 11, .ref 21, .int h, .ref 31, .ref 32, .ref 33]))) = _
  congr 1
  funext i
  unfold a_up
  by_cases hi : i = 0
  · subst hi; rfl
  · rw [if_neg hi]
    unfold putX
    rw [if_neg hi, if_neg hi]
    rfl
theorem a_fld_out {c : Nat} (w : aW) (j : Nat) (κ : aK) {r k : Nat} (h : r < j ∨ j + 9 < r) : a_fld c (putM w j κ) r k = a_fld c w r k := by
  unfold a_fld
  rw [putM_out _ _ _ h]
theorem a_ia_out (w : aW) (j : Nat) (κ : aK) {r : Nat} (h : r < j ∨ j + 9 < r) : a_ia (putM w j κ) r = a_ia w r := by
  unfold a_ia
  rw [putM_out _ _ _ h]
theorem gI_out {c : Nat} (w : aW) (j : Nat) (κ : aK) {r k : Nat} (h : r < j ∨ j + 9 < r) : gI c (putM w j κ) r k = gI c w r k := by
  unfold gI
  rw [a_fld_out _ _ _ h]
theorem gR_out {c : Nat} (w : aW) (j : Nat) (κ : aK) {r k : Nat} (h : r < j ∨ j + 9 < r) : gR c (putM w j κ) r k = gR c w r k := by
  unfold gR
  rw [a_fld_out _ _ _ h]
theorem cpy_tr (n : Nat) (f g : Nat → Int32) : va_cpy (tr n f) (tr n g) 0 0 n = tr n f := by
  funext z
  unfold va_cpy tr
  by_cases h : z < n
  · simp [h]
  · simp [h]
theorem cpI_M {w : aW} {j1 j2 : Nat} (h1 : j1 + 9 < 75) (h2 : j2 + 9 < 75) (hd : j1 + 9 < j2 ∨ j2 + 9 < j1) (κ1 κ2 : aK) (k : Nat) (hk : k < 9) {n : Int32} (hn : n = nI (kln k)) : cpI (putM (putM w j2 κ2) j1 κ1) (j2 + (k + 1)) 0 (j1 + (k + 1)) 0 n = some (putM (putM w j2 κ2) j1 (karr κ1 k (κ2.2.2 k))) := by
  subst hn
  have hb : kln k < 10 := by unfold kln; split <;> decide
  unfold cpI
  rw [a_ia_out _ _ _ (show j2 + (k + 1) < j1 ∨ j1 + 9 < j2 + (k + 1) by omega), putM_ia h2 κ2 k hk, putM_ia h1 κ1 k hk]
  simp only [Option.bind_some]
  rw [nI_clamp (by omega), show (0 : Int32).toNatClampNeg = 0 from rfl, Nat.zero_add, if_neg, cpy_tr, putM_up _ _ _ _ hk]
  rintro (h | h | h | h | h)
  · exact absurd h (by decide)
  · exact absurd h (by decide)
  · exact nI_pos (by omega) h
  · omega
  · omega
theorem p_becomeAs {w : aW} {j1 j2 : Nat} (h1 : j1 + 9 < 75) (h2 : j2 + 9 < 75) (hd : j1 + 9 < j2 ∨ j2 + 9 < j1) (κ1 κ2 : aK) : f_X0_becomeAs j1 j2 (putM (putM w j2 κ2) j1 κ1) = some ((), putM (putM w j2 κ2) j1 κ2) := by
  have ho : j2 < j1 ∨ j1 + 9 < j2 := by omega
  have hj := h1
  unfold f_X0_becomeAs
  simp only [gI_out _ _ _ ho, gR_out _ _ _ ho, gI_M0 h2, gI_M1 h2, gI_M2 h2, gI_M3 h2, gR_M4 h2, gR_M5 h2, gR_M6 h2, gR_M7 h2, gR_M8 h2, gR_M9 h2, gR_M10 h2, gR_M11 h2, gR_M12 h2, gR_M4 h1, gR_M5 h1, gR_M6 h1, gR_M7 h1, gR_M8 h1, gR_M9 h1, gR_M10 h1, gR_M11 h1, gR_M12 h1, sF_M0 h1, sF_M1 h1, sF_M2 h1, sF_M3 h1, bind_some']
  have c := fun (κ1 : aK) (k : Nat) (hk : k < 9) {n : Int32} (hn : n = nI (kln k)) => cpI_M (w := w) h1 h2 hd κ1 κ2 k hk hn
  have c0 := fun κ1 : aK => c κ1 0 (by decide) (n := 9) rfl
  have c1 := fun κ1 : aK => c κ1 1 (by decide) (n := 9) rfl
  have c2 := fun κ1 : aK => c κ1 2 (by decide) (n := 9) rfl
  have c3 := fun κ1 : aK => c κ1 3 (by decide) (n := 9) rfl
  have c4 := fun κ1 : aK => c κ1 4 (by decide) (n := 9) rfl
  have c5 := fun κ1 : aK => c κ1 5 (by decide) (n := 5) rfl
  have c6 := fun κ1 : aK => c κ1 6 (by decide) (n := 5) rfl
  have c7 := fun κ1 : aK => c κ1 7 (by decide) (n := 5) rfl
  have c8 := fun κ1 : aK => c κ1 8 (by decide) (n := 5) rfl
  simp only [Nat.zero_add, Nat.reduceAdd] at c0 c1 c2 c3 c4 c5 c6 c7 c8
  simp only [c0, c1, c2, c3, c4, c5, c6, c7, c8, gR_out _ _ _ ho, gR_M4 h2, gR_M5 h2, gR_M6 h2, gR_M7 h2, gR_M8 h2, gR_M9 h2, gR_M10 h2, gR_M11 h2, gR_M12 h2, gR_M4 h1, gR_M5 h1, gR_M6 h1, gR_M7 h1, gR_M8 h1, gR_M9 h1, gR_M10 h1, gR_M11 h1, gR_M12 h1, bind_some']
  congr 2
  refine putM_ext _ _ rfl (fun a ha => ?_) (fun k hk => ?_)
  · rcases (show a = 0 ∨ a = 1 ∨ a = 2 by omega) with rfl | rfl | rfl <;> rfl
  · rcases (show k = 0 ∨ k = 1 ∨ k = 2 ∨ k = 3 ∨ k = 4 ∨ k = 5 ∨ k = 6 ∨ k = 7 ∨ k = 8 by omega) with rfl | rfl | rfl | rfl | rfl | rfl | rfl | rfl | rfl <;> rfl
theorem x_think (w : aW) (X : aX) : f_X3_think 0 (putX w X) = some ((), putX w (xmind X X.1)) := by
  unfold f_X3_think
  have e := p_becomeAs (w := putX w X) (j1 := 11) (j2 := 1) (by decide) (by decide) (by decide) X.2.1 X.1
  rw [← X_now, ← X_mind, X_mind'] at e
  rw [gR_X1, bind_some', gR_X0, bind_some', e, bk_some]
  conv => lhs; rw [X_mind]
  rw [cV_M (by decide)]
