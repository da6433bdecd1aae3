/-! PURE: a shelf in a world -/
def sset (ν : aS) (k : Nat) (x : Int32) : aS := (fun z => if z = k then x else ν.1 z, ν.2)
def sel (ν : aS) (f : Nat → Int32) : aS := (ν.1, f)
theorem putS_obj (w : aW) (j : Nat) (ν : aS) : putS w j ν j = .inr (1, [.int (ν.1 0), .int (ν.1 1), .int (ν.1 2), .int (ν.1 3), .int (ν.1 4), .ref (j + 1)]) := if_pos rfl
theorem putS_arr (w : aW) (j : Nat) (ν : aS) : putS w j ν (j + 1) = .inl (0, 100, .inl ν.2) := by
  unfold putS
  rw [if_neg (by omega), if_pos rfl]
theorem fld_S {w : aW} {j : Nat} (hj : j + 1 < 75) (ν : aS) (k : Nat) : a_fld 1 (putS w j ν) j k = ([.int (ν.1 0), .int (ν.1 1), .int (ν.1 2), .int (ν.1 3), .int (ν.1 4), .ref (j + 1)] : List Value)[k]? := by
  unfold a_fld
  rw [if_pos (by show j < 75; omega), putS_obj]
  rfl
theorem cV_S {α : Type} {w : aW} {j : Nat} (hj : j + 1 < 75) (ν : aS) (x : Option α) : cV 1 (putS w j ν) j x = x := by
  unfold cV a_isOb
  rw [putS_obj, decide_eq_true (show j < a_N from by show j < 75; omega)]
  rfl
theorem gR_S5 {w : aW} {j : Nat} (hj : j + 1 < 75) (ν : aS) : gR 1 (putS w j ν) j 5 = some (j + 1) := by
  unfold gR
  rw [fld_S hj]
  rfl
theorem ia_S {w : aW} {j : Nat} (hj : j + 1 < 75) (ν : aS) : a_ia (putS w j ν) (j + 1) = some (100, ν.2) := by
  unfold a_ia
  rw [if_pos (by show j + 1 < 75; omega), putS_arr]
  rfl
theorem gA_S {w : aW} {j : Nat} (hj : j + 1 < 75) (ν : aS) {i : Nat} (hi : i < 100) : gA (putS w j ν) (j + 1) (nI i) = some (ν.2 i) := by
  unfold gA
  rw [ia_S hj]
  simp only [Option.bind_some]
  rw [if_neg (ix_ok hi (by decide)), nI_clamp (by omega)]
theorem up_S (w : aW) (j : Nat) (ν : aS) (f : Nat → Int32) : a_up (putS w j ν) (j + 1) (.inl (0, 100, .inl f)) = putS w j (sel ν f) := by
  funext z
  unfold a_up putS
  by_cases h : z = j + 1
  · have h0 : ¬ z = j := by omega
    rw [if_pos h, if_neg h0, if_pos h]
    rfl
  · rw [if_neg h, if_neg h, if_neg h]
    by_cases h0 : z = j
    · rw [if_pos h0, if_pos h0]
      rfl
    · rw [if_neg h0, if_neg h0]
theorem sA_S {w : aW} {j : Nat} (hj : j + 1 < 75) (ν : aS) {i : Nat} (hi : i < 100) (x : Int32) : sA (putS w j ν) (j + 1) (nI i) x = some (putS w j (sel ν (upd ν.2 i x))) := by
  unfold sA
  rw [ia_S hj]
  simp only [Option.bind_some]
  rw [if_neg (ix_ok hi (by decide)), nI_clamp (by omega), up_S]
theorem gN_S {w : aW} {j : Nat} (hj : j + 1 < 75) (ν : aS) : gN (putS w j ν) (j + 1) = some (nI 100) := by
  unfold gN
  rw [ia_S hj]
  rfl
theorem sset_1 (ν : aS) (k : Nat) (x : Int32) (z : Nat) : (sset ν k x).1 z = if z = k then x else ν.1 z := rfl
theorem sset_2 (ν : aS) (k : Nat) (x : Int32) : (sset ν k x).2 = ν.2 := rfl
theorem sel_1 (ν : aS) (f : Nat → Int32) : (sel ν f).1 = ν.1 := rfl
theorem sel_2 (ν : aS) (f : Nat → Int32) : (sel ν f).2 = f := rfl
theorem oc_none {β : Type} (n : β) (g : Nat → β) : oc none n g = n := rfl
theorem oc_some {β : Type} (a : Nat) (n : β) (g : Nat → β) : oc (some a) n g = g a := rfl
theorem gI_S0 {w : aW} {j : Nat} (hj : j + 1 < 75) (ν : aS) : gI 1 (putS w j ν) j 0 = some (ν.1 0) := by
  unfold gI
  rw [fld_S hj]
  rfl
theorem sF_S0 {w : aW} {j : Nat} (hj : j + 1 < 75) (ν : aS) (x : Int32) : sF 1 (putS w j ν) j 0 (.int x) = some (putS w j (sset ν 0 x)) := by
  unfold sF
  rw [if_pos (by show j < 75; omega), putS_obj]
  show (if (1 : Nat) = 1 ∧ 0 < 6 then some _ else none) = _
  rw [if_pos ⟨rfl, by decide⟩]
  congr 1
  funext z
  unfold a_up putS
  by_cases h1 : z = j
  · rw [if_pos h1, if_pos h1]
    rfl
  · rw [if_neg h1, if_neg h1, if_neg h1]
    rfl
theorem gI_S1 {w : aW} {j : Nat} (hj : j + 1 < 75) (ν : aS) : gI 1 (putS w j ν) j 1 = some (ν.1 1) := by
  unfold gI
  rw [fld_S hj]
  rfl
theorem sF_S1 {w : aW} {j : Nat} (hj : j + 1 < 75) (ν : aS) (x : Int32) : sF 1 (putS w j ν) j 1 (.int x) = some (putS w j (sset ν 1 x)) := by
  unfold sF
  rw [if_pos (by show j < 75; omega), putS_obj]
  show (if (1 : Nat) = 1 ∧ 1 < 6 then some _ else none) = _
  rw [if_pos ⟨rfl, by decide⟩]
  congr 1
  funext z
  unfold a_up putS
  by_cases h1 : z = j
  · rw [if_pos h1, if_pos h1]
    rfl
  · rw [if_neg h1, if_neg h1, if_neg h1]
    rfl
theorem gI_S2 {w : aW} {j : Nat} (hj : j + 1 < 75) (ν : aS) : gI 1 (putS w j ν) j 2 = some (ν.1 2) := by
  unfold gI
  rw [fld_S hj]
  rfl
theorem sF_S2 {w : aW} {j : Nat} (hj : j + 1 < 75) (ν : aS) (x : Int32) : sF 1 (putS w j ν) j 2 (.int x) = some (putS w j (sset ν 2 x)) := by
  unfold sF
  rw [if_pos (by show j < 75; omega), putS_obj]
  show (if (1 : Nat) = 1 ∧ 2 < 6 then some _ else none) = _
  rw [if_pos ⟨rfl, by decide⟩]
  congr 1
  funext z
  unfold a_up putS
  by_cases h1 : z = j
  · rw [if_pos h1, if_pos h1]
    rfl
  · rw [if_neg h1, if_neg h1, if_neg h1]
    rfl
theorem gI_S3 {w : aW} {j : Nat} (hj : j + 1 < 75) (ν : aS) : gI 1 (putS w j ν) j 3 = some (ν.1 3) := by
  unfold gI
  rw [fld_S hj]
  rfl
theorem sF_S3 {w : aW} {j : Nat} (hj : j + 1 < 75) (ν : aS) (x : Int32) : sF 1 (putS w j ν) j 3 (.int x) = some (putS w j (sset ν 3 x)) := by
  unfold sF
  rw [if_pos (by show j < 75; omega), putS_obj]
  show (if (1 : Nat) = 1 ∧ 3 < 6 then some _ else none) = _
  rw [if_pos ⟨rfl, by decide⟩]
  congr 1
  funext z
  unfold a_up putS
  by_cases h1 : z = j
  · rw [if_pos h1, if_pos h1]
    rfl
  · rw [if_neg h1, if_neg h1, if_neg h1]
    rfl
theorem gI_S4 {w : aW} {j : Nat} (hj : j + 1 < 75) (ν : aS) : gI 1 (putS w j ν) j 4 = some (ν.1 4) := by
  unfold gI
  rw [fld_S hj]
  rfl
theorem sF_S4 {w : aW} {j : Nat} (hj : j + 1 < 75) (ν : aS) (x : Int32) : sF 1 (putS w j ν) j 4 (.int x) = some (putS w j (sset ν 4 x)) := by
  unfold sF
  rw [if_pos (by show j < 75; omega), putS_obj]
  show (if (1 : Nat) = 1 ∧ 4 < 6 then some _ else none) = _
  rw [if_pos ⟨rfl, by decide⟩]
  congr 1
  funext z
  unfold a_up putS
  by_cases h1 : z = j
  · rw [if_pos h1, if_pos h1]
    rfl
  · rw [if_neg h1, if_neg h1, if_neg h1]
    rfl
def WFs (ν : aS) : Prop := (ν.1 0 = 0 ∨ ν.1 0 = 1 ∨ ν.1 0 = 2) ∧ (∃ n, n ≤ 100 ∧ ν.1 4 = nI n) ∧ (ν.1 0 = 1 → (∃ s, s ≤ 7 ∧ ν.1 1 = nI s) ∧ ∃ f, f ≤ 9 ∧ ν.1 2 = nI f)
def rowR (ν : aS) : Int32 := if ¬ ν.1 0 = 0 then (if ¬ ν.1 0 = 2 then -12 else 0) else -11
def beaR (ν : aS) : Int32 := if ¬ ν.1 0 = 0 then (if ¬ ν.1 0 = 1 then -12 else 0) else -11
theorem p_rowRefusal {w : aW} {j : Nat} (hj : j + 1 < 75) (ν : aS) : f_X1_rowRefusal j (putS w j ν) = some (rowR ν, putS w j ν) := by
  unfold f_X1_rowRefusal rowR
  simp only [gI_S0 hj, gI_S1 hj, gI_S2 hj, gI_S3 hj, gI_S4 hj, gR_S5 hj, cV_S hj, bk_some, bind_some', zb_0, zb_1, zb_or, cc_or, if_true, if_false, not_true_eq_false, not_false_eq_true, Bool.false_eq_true, Bool.true_eq_false, reduceIte, ite_true, ite_false]
  repeat' split
  all_goals rfl
theorem p_beastRefusal {w : aW} {j : Nat} (hj : j + 1 < 75) (ν : aS) : f_X1_beastRefusal j (putS w j ν) = some (beaR ν, putS w j ν) := by
  unfold f_X1_beastRefusal beaR
  simp only [gI_S0 hj, gI_S1 hj, gI_S2 hj, gI_S3 hj, gI_S4 hj, gR_S5 hj, cV_S hj, bk_some, bind_some', zb_0, zb_1, zb_or, cc_or, if_true, if_false, not_true_eq_false, not_false_eq_true, Bool.false_eq_true, Bool.true_eq_false, reduceIte, ite_true, ite_false]
  repeat' split
  all_goals rfl
theorem p_holdsBytes {w : aW} {j : Nat} (hj : j + 1 < 75) (ν : aS) : f_X1_holdsBytes j (putS w j ν) = some (zb (decide (ν.1 0 = 2) && decide (ν.1 3 = 0)), putS w j ν) := by
  unfold f_X1_holdsBytes
  simp only [gI_S0 hj, gI_S1 hj, gI_S2 hj, gI_S3 hj, gI_S4 hj, gR_S5 hj, cV_S hj, bk_some, bind_some', zb_0, zb_1, zb_or, cc_or, if_true, if_false, not_true_eq_false, not_false_eq_true, Bool.false_eq_true, Bool.true_eq_false, reduceIte, ite_true, ite_false]
  by_cases h1 : ν.1 0 = 2 <;> by_cases h2 : ν.1 3 = 0 <;> simp [h1, h2, zb]
theorem inN {n : Nat} (hn : n ≤ 100) {x : Int32} (h : inR x 0 (nI n - 1) = true) : ∃ b, b < n ∧ x = nI b := by
  by_cases h0 : n = 0
  · subst h0
    unfold inR at h
    rw [Bool.and_eq_true, decide_eq_true_eq, decide_eq_true_eq] at h
    exact absurd (Int32.le_trans h.1 h.2) (by decide)
  · rw [show (1 : Int32) = nI 1 from rfl, nI_sub (by omega)] at h
    obtain ⟨i, h1, h2⟩ := inR_nI (by omega) h
    exact ⟨i, by omega, h2⟩
theorem inN_of {i n : Nat} (hn : n ≤ 100) (hi : i < n) : inR (nI i) 0 (nI n - 1) = true := by
  rw [show (1 : Int32) = nI 1 from rfl, nI_sub (by omega)]
  exact inR_of (by omega) (by omega)
def atS (ν : aS) (x : Int32) : Int32 := if inR x 0 (ν.1 4 - 1) = true then ν.2 (ix x) else 0
theorem p_at {w : aW} {j : Nat} (hj : j + 1 < 75) {ν : aS} (hν : WFs ν) (x : Int32) : f_X1_at j x (putS w j ν) = some (atS ν x, putS w j ν) := by
  obtain ⟨n, hn, he⟩ := hν.2.1
  unfold f_X1_at atS
  by_cases h : inR x 0 (ν.1 4 - 1) = true
  · have h' := h
    rw [he] at h'
    obtain ⟨b, hb, hx⟩ := inN hn h'
    subst hx
    simp only [gI_S0 hj, gI_S1 hj, gI_S2 hj, gI_S3 hj, gI_S4 hj, gR_S5 hj, cV_S hj, bk_some, bind_some', zb_0, zb_1, zb_or, cc_or, p_within, h, gA_S hj ν (show b < 100 by omega), ix_nI (show b < 2 ^ 31 by omega), if_true, if_false, not_true_eq_false, not_false_eq_true, Bool.false_eq_true, Bool.true_eq_false, reduceIte, ite_true, ite_false]
  · have h := Bool.eq_false_iff.mpr h
    simp only [gI_S0 hj, gI_S1 hj, gI_S2 hj, gI_S3 hj, gI_S4 hj, gR_S5 hj, cV_S hj, bk_some, bind_some', zb_0, zb_1, zb_or, cc_or, p_within, h, if_true, if_false, not_true_eq_false, not_false_eq_true, Bool.false_eq_true, Bool.true_eq_false, reduceIte, ite_true, ite_false]
theorem at_in {ν : aS} {n i : Nat} (hn : n ≤ 100) (he : ν.1 4 = nI n) (hi : i < n) : atS ν (nI i) = ν.2 i := by
  unfold atS
  rw [he, if_pos (inN_of hn hi), ix_nI (by omega)]
def lstI (k : Int32) : Int32 := if k = 0 then -128 else if k = 1 then -32768 else -2147483648
def tellS (ν : aS) (x : Int32) : Bool := !decide (atS ν x = lstI (ν.1 3))
theorem p_tells {w : aW} {j : Nat} (hj : j + 1 < 75) {ν : aS} (hν : WFs ν) (x : Int32) : f_X1_tells j x (putS w j ν) = some (zb (tellS ν x), putS w j ν) := by
  unfold f_X1_tells tellS lstI
  simp only [gI_S0 hj, gI_S1 hj, gI_S2 hj, gI_S3 hj, gI_S4 hj, gR_S5 hj, cV_S hj, bk_some, bind_some', zb_0, zb_1, zb_or, cc_or, p_at hj hν, if_true, if_false, not_true_eq_false, not_false_eq_true, Bool.false_eq_true, Bool.true_eq_false, reduceIte, ite_true, ite_false]
  by_cases h1 : ν.1 3 = 0
  · by_cases h2 : atS ν x = -128 <;> simp [h1, h2, zb]
  · by_cases h3 : ν.1 3 = 1
    · by_cases h2 : atS ν x = -32768 <;> simp [h3, h2, zb]
    · by_cases h2 : atS ν x = -2147483648 <;> simp [h1, h3, h2, zb]
def narI (k x : Int32) : Int32 := if k = 0 then x.toInt8.toInt32 else if k = 1 then x.toInt16.toInt32 else x
theorem p_set {w : aW} {j : Nat} (hj : j + 1 < 75) {ν : aS} {n i : Nat} (hn : n ≤ 100) (he : ν.1 4 = nI n) (hi : i < n) (x : Int32) : f_X1_set j (nI i) x (putS w j ν) = some ((), putS w j (sel ν (upd ν.2 i (narI (ν.1 3) x)))) := by
  unfold f_X1_set narI
  simp only [gI_S0 hj, gI_S1 hj, gI_S2 hj, gI_S3 hj, gI_S4 hj, gR_S5 hj, cV_S hj, bk_some, bind_some', zb_0, zb_1, zb_or, cc_or, p_within, he, inN_of hn hi, sA_S hj ν (show i < 100 by omega), if_true, if_false, not_true_eq_false, not_false_eq_true, Bool.false_eq_true, Bool.true_eq_false, reduceIte, ite_true, ite_false]
  repeat' split
  all_goals rfl
def strB (ν : aS) (x n : Int32) : Bool := !decide (n < 0) && (inR x 0 (ν.1 4) && !decide (ν.1 4 - x < n))
theorem p_hasStretch {w : aW} {j : Nat} (hj : j + 1 < 75) (ν : aS) (x n : Int32) : f_X1_hasStretch j x n (putS w j ν) = some (zb (strB ν x n), putS w j ν) := by
  unfold f_X1_hasStretch strB
  simp only [gI_S0 hj, gI_S1 hj, gI_S2 hj, gI_S3 hj, gI_S4 hj, gR_S5 hj, cV_S hj, bk_some, bind_some', zb_0, zb_1, zb_or, cc_or, p_within, if_true, if_false, not_true_eq_false, not_false_eq_true, Bool.false_eq_true, Bool.true_eq_false, reduceIte, ite_true, ite_false]
  by_cases h1 : n < 0
  · simp [h1, zb]
  · by_cases h2 : inR x 0 (ν.1 4) = true
    · by_cases h3 : ν.1 4 - x < n <;> simp [h1, h2, h3, zb]
    · have h2 := Bool.eq_false_iff.mpr h2
      simp [h1, h2, zb]
theorem p_becomeEmpty {w : aW} {j : Nat} (hj : j + 1 < 75) (ν : aS) : f_X1_becomeEmpty j (putS w j ν) = some ((), putS w j (sset (sset ν 0 0) 4 0)) := by
  unfold f_X1_becomeEmpty
  simp only [gI_S0 hj, gI_S1 hj, gI_S2 hj, gI_S3 hj, gI_S4 hj, gR_S5 hj, cV_S hj, bk_some, bind_some', zb_0, zb_1, zb_or, cc_or, sF_S0 hj, sF_S1 hj, sF_S2 hj, sF_S3 hj, sF_S4 hj, if_true, if_false, not_true_eq_false, not_false_eq_true, Bool.false_eq_true, Bool.true_eq_false, reduceIte, ite_true, ite_false]
theorem p_holdBeast {w : aW} {j : Nat} (hj : j + 1 < 75) (ν : aS) (k f : Int32) : f_X1_holdBeast j k f (putS w j ν) = some ((), putS w j (sset (sset (sset (sset ν 0 1) 4 0) 1 k) 2 f)) := by
  unfold f_X1_holdBeast
  simp only [gI_S0 hj, gI_S1 hj, gI_S2 hj, gI_S3 hj, gI_S4 hj, gR_S5 hj, cV_S hj, bk_some, bind_some', zb_0, zb_1, zb_or, cc_or, sF_S0 hj, sF_S1 hj, sF_S2 hj, sF_S3 hj, sF_S4 hj, if_true, if_false, not_true_eq_false, not_false_eq_true, Bool.false_eq_true, Bool.true_eq_false, reduceIte, ite_true, ite_false]
theorem fill_lt {i : Nat} (h : i < 100) : ¬ nI 100 ≤ nI i := le_nIb (by decide) (by omega) h
theorem p_fill {w : aW} {j : Nat} (hj : j + 1 < 75) (ν : aS) : f_J7_fill_53178 (j + 1) 0 (putS w j ν) = some ((), putS w j (sel ν (fun i => if i < 100 then 0 else ν.2 i))) := by
  unfold f_J7_fill_53178
  rw [gN_S hj, bind_some']
  have key : ∀ (m i : Nat) (f : Nat → Int32) (n : Nat), i + m = 100 → m < n → loop3 (c_J7_fill_53178_5 (j + 1) 0) n (nI i) (nI 100) (putS w j (sel ν f)) = some ((), putS w j (sel ν (fun z => if i ≤ z ∧ z < 100 then 0 else f z))) := by
    intro m
    induction m with
    | zero =>
      intro i f n hi hn
      obtain ⟨n', rfl⟩ : ∃ n', n = n' + 1 := ⟨n - 1, by omega⟩
      have : i = 100 := by omega
      subst this
      rw [loop3_s]
      simp only [c_J7_fill_53178_5, Int32.le_refl, if_true]
      congr 3
      unfold sel
      congr 1
      funext z
      rw [if_neg (by omega)]
    | succ m ih =>
      intro i f n hi hn
      obtain ⟨n', rfl⟩ : ∃ n', n = n' + 1 := ⟨n - 1, by omega⟩
      rw [loop3_s]
      simp only [c_J7_fill_53178_5, fill_lt (show i < 100 by omega), if_false, sA_S hj (sel ν f) (show i < 100 by omega), bind_some', nI_1]
      have e := ih (i + 1) (upd f i 0) n' (by omega) (by omega)
      refine Eq.trans e ?_
      congr 3
      unfold sel
      congr 1
      funext z
      unfold upd
      by_cases h : z = i
      · subst h
        rw [if_neg (by omega), if_pos rfl, if_pos (by omega)]
      · by_cases h2 : i + 1 ≤ z ∧ z < 100
        · rw [if_pos h2, if_pos (by omega)]
        · rw [if_neg h2, if_neg h, if_neg (by omega)]
  have e := key 100 0 ν.2 a_fuel rfl (by decide)
  refine Eq.trans e ?_
  congr 3
  unfold sel
  congr 1
  funext z
  by_cases h : z < 100
  · rw [if_pos ⟨by omega, h⟩, if_pos h]
  · rw [if_neg (fun q => h q.2), if_neg h]
theorem row_sz {n : Nat} (hn : n ≤ 100) : (if (0 : Int32) < (if nI n < (100 : Int32) then nI n else (100 : Int32)) then (if nI n < (100 : Int32) then nI n else (100 : Int32)) else (0 : Int32)) = nI n := by
  have key : ∀ n, n < 101 → (if (0 : Int32) < (if nI n < (100 : Int32) then nI n else (100 : Int32)) then (if nI n < (100 : Int32) then nI n else (100 : Int32)) else (0 : Int32)) = nI n := by decide
  exact key n (by omega)
def rowS (ν : aS) (k : Int32) (n : Nat) : aS := sel (sset (sset (sset ν 0 2) 3 k) 4 (nI n)) (fun i => if i < 100 then 0 else ν.2 i)
theorem p_holdRow {w : aW} {j : Nat} (hj : j + 1 < 75) (ν : aS) (k : Int32) {n : Nat} (hn : n ≤ 100) : f_X1_holdRow j k (nI n) (putS w j ν) = some ((), putS w j (rowS ν k n)) := by
  unfold f_X1_holdRow
  simp only [gI_S0 hj, gI_S1 hj, gI_S2 hj, gI_S3 hj, gI_S4 hj, gR_S5 hj, cV_S hj, bk_some, bind_some', zb_0, zb_1, zb_or, cc_or, sF_S0 hj, sF_S1 hj, sF_S2 hj, sF_S3 hj, sF_S4 hj, row_sz hn, p_fill hj, if_true, if_false, not_true_eq_false, not_false_eq_true, Bool.false_eq_true, Bool.true_eq_false, reduceIte, ite_true, ite_false]
  rfl
def numS (ν : aS) (x : Int32) : Nat → Int32
  | 0 => 0
  | n + 1 => numS ν x n * 10 + atS ν (x + nI n) - 48
theorem p_number {w : aW} {j : Nat} (hj : j + 1 < 75) {ν : aS} (hν : WFs ν) (x : Int32) {d : Nat} (hd : d < 1000) : f_X1_number j x (nI d) (putS w j ν) = some (numS ν x d, putS w j ν) := by
  unfold f_X1_number
  have e := for3 (fun s : Int32 => s) (fun _ => putS w j ν) (c_X1_number_5 j x (nI d)) d (fun i s => s * 10 + atS ν (x + nI i) - 48) (fun s => some (s, putS w j ν)) (fun _ _ => True) (fun k i s hi _ => by
      simp only [c_X1_number_5, le_nI (show d < 2 ^ 31 by omega) (show i < 2 ^ 31 by omega), Nat.not_le.mpr hi, gI_S0 hj, gI_S1 hj, gI_S2 hj, gI_S3 hj, gI_S4 hj, gR_S5 hj, cV_S hj, bk_some, bind_some', zb_0, zb_1, zb_or, cc_or, p_at hj hν, nI_1, if_true, if_false, not_true_eq_false, not_false_eq_true, Bool.false_eq_true, Bool.true_eq_false, reduceIte, ite_true, ite_false]) (fun _ _ _ _ => trivial) (fun k s _ => by simp only [c_X1_number_5, Int32.le_refl, if_true, if_false, not_true_eq_false, not_false_eq_true, Bool.false_eq_true, Bool.true_eq_false, reduceIte, ite_true, ite_false]) d 0 0 a_fuel (by omega) (show d < 1000 by omega) trivial
  refine Eq.trans e ?_
  have key : ∀ n, itr (fun i s => s * 10 + atS ν (x + nI i) - 48) 0 n 0 = numS ν x n := by
    intro n
    induction n with
    | zero => rfl
    | succ n ih =>
      rw [itr_add n 1 0 0, ih]
      show numS ν x n * 10 + atS ν (x + nI (0 + n)) - 48 = _
      rw [Nat.zero_add]
      rfl
  rw [key]
theorem s_lt {d : Nat} (hd : d < 8) : 34 + 2 * d + 1 < 75 := by omega
theorem xsh_d (X : aX) (d : Nat) (ν : aS) : (xsh X d ν).2.2.2.2.1 d = ν := if_pos rfl
theorem xsh_0 (X : aX) (d : Nat) (ν : aS) : (xsh X d ν).1 = X.1 := rfl
theorem xsh_m (X : aX) (d : Nat) (ν : aS) : (xsh X d ν).2.1 = X.2.1 := rfl
theorem xmind_s (X : aX) (κ : aK) : (xmind X κ).2.2.2.2.1 = X.2.2.2.2.1 := rfl
theorem xnow_s (X : aX) (κ : aK) : (xnow X κ).2.2.2.2.1 = X.2.2.2.2.1 := rfl
theorem in7 {x : Int32} (h : inR x 0 7 = true) : ∃ d, d < 8 ∧ x = nI d := by
  obtain ⟨i, h1, h2⟩ := inR_nI (n := 7) (by decide) h
  exact ⟨i, by omega, h2⟩
theorem x_shelfAt (w : aW) (X : aX) {d : Nat} (hd : d < 8) : f_X3_shelfAt 0 (nI d) (putX w X) = some (some (34 + 2 * d), putX w X) := by
  unfold f_X3_shelfAt
  simp only [p_within, show inR (nI d) 0 7 = true from inR_of (n := 7) (by omega) (by decide), bk_some, zb_0, gR_X4, bind_some', gQ_X w X hd, if_true, if_false, not_true_eq_false, not_false_eq_true, Bool.false_eq_true, Bool.true_eq_false, reduceIte, ite_true, ite_false]
theorem x_shelfNo (w : aW) (X : aX) {x : Int32} (h : inR x 0 7 = false) : f_X3_shelfAt 0 x (putX w X) = some (none, putX w X) := by
  unfold f_X3_shelfAt
  simp only [p_within, h, bk_some, zb_0, if_true, if_false, not_true_eq_false, not_false_eq_true, Bool.false_eq_true, Bool.true_eq_false, reduceIte, ite_true, ite_false]
theorem S_gI0 (w : aW) (X : aX) {d : Nat} (hd : d < 8) : gI 1 (putX w X) (34 + 2 * d) 0 = some ((X.2.2.2.2.1 d).1 0) := by
  rw [X_sh w X hd]; exact gI_S0 (s_lt hd) _
theorem S_gI1 (w : aW) (X : aX) {d : Nat} (hd : d < 8) : gI 1 (putX w X) (34 + 2 * d) 1 = some ((X.2.2.2.2.1 d).1 1) := by
  rw [X_sh w X hd]; exact gI_S1 (s_lt hd) _
theorem S_gI2 (w : aW) (X : aX) {d : Nat} (hd : d < 8) : gI 1 (putX w X) (34 + 2 * d) 2 = some ((X.2.2.2.2.1 d).1 2) := by
  rw [X_sh w X hd]; exact gI_S2 (s_lt hd) _
theorem S_gI3 (w : aW) (X : aX) {d : Nat} (hd : d < 8) : gI 1 (putX w X) (34 + 2 * d) 3 = some ((X.2.2.2.2.1 d).1 3) := by
  rw [X_sh w X hd]; exact gI_S3 (s_lt hd) _
theorem S_gI4 (w : aW) (X : aX) {d : Nat} (hd : d < 8) : gI 1 (putX w X) (34 + 2 * d) 4 = some ((X.2.2.2.2.1 d).1 4) := by
  rw [X_sh w X hd]; exact gI_S4 (s_lt hd) _
theorem S_gR5 (w : aW) (X : aX) {d : Nat} (hd : d < 8) : gR 1 (putX w X) (34 + 2 * d) 5 = some (34 + 2 * d + 1) := by
  rw [X_sh w X hd]; exact gR_S5 (s_lt hd) _
theorem S_cV {α : Type} (w : aW) (X : aX) {d : Nat} (hd : d < 8) (x : Option α) : cV 1 (putX w X) (34 + 2 * d) x = x := by
  rw [X_sh w X hd]; exact cV_S (s_lt hd) _ x
theorem S_rowRefusal (w : aW) (X : aX) {d : Nat} (hd : d < 8) : f_X1_rowRefusal (34 + 2 * d) (putX w X) = some (rowR (X.2.2.2.2.1 d), putX w X) := by
  rw [X_sh w X hd]; exact p_rowRefusal (s_lt hd) _
theorem S_beastRefusal (w : aW) (X : aX) {d : Nat} (hd : d < 8) : f_X1_beastRefusal (34 + 2 * d) (putX w X) = some (beaR (X.2.2.2.2.1 d), putX w X) := by
  rw [X_sh w X hd]; exact p_beastRefusal (s_lt hd) _
theorem S_holdsBytes (w : aW) (X : aX) {d : Nat} (hd : d < 8) : f_X1_holdsBytes (34 + 2 * d) (putX w X) = some (zb (decide ((X.2.2.2.2.1 d).1 0 = 2) && decide ((X.2.2.2.2.1 d).1 3 = 0)), putX w X) := by
  rw [X_sh w X hd]; exact p_holdsBytes (s_lt hd) _
theorem S_at (w : aW) (X : aX) {d : Nat} (hd : d < 8) (hν : WFs (X.2.2.2.2.1 d)) (x : Int32) : f_X1_at (34 + 2 * d) x (putX w X) = some (atS (X.2.2.2.2.1 d) x, putX w X) := by
  rw [X_sh w X hd]; exact p_at (s_lt hd) hν x
theorem S_tells (w : aW) (X : aX) {d : Nat} (hd : d < 8) (hν : WFs (X.2.2.2.2.1 d)) (x : Int32) : f_X1_tells (34 + 2 * d) x (putX w X) = some (zb (tellS (X.2.2.2.2.1 d) x), putX w X) := by
  rw [X_sh w X hd]; exact p_tells (s_lt hd) hν x
theorem S_number (w : aW) (X : aX) {d : Nat} (hd : d < 8) (hν : WFs (X.2.2.2.2.1 d)) (x : Int32) {n : Nat} (hn : n < 1000) : f_X1_number (34 + 2 * d) x (nI n) (putX w X) = some (numS (X.2.2.2.2.1 d) x n, putX w X) := by
  rw [X_sh w X hd]; exact p_number (s_lt hd) hν x hn
theorem S_hasStretch (w : aW) (X : aX) {d : Nat} (hd : d < 8) (x n : Int32) : f_X1_hasStretch (34 + 2 * d) x n (putX w X) = some (zb (strB (X.2.2.2.2.1 d) x n), putX w X) := by
  rw [X_sh w X hd]; exact p_hasStretch (s_lt hd) _ x n
theorem S_set (w : aW) (X : aX) {d : Nat} (hd : d < 8) {n i : Nat} (hn : n ≤ 100) (he : (X.2.2.2.2.1 d).1 4 = nI n) (hi : i < n) (x : Int32) : f_X1_set (34 + 2 * d) (nI i) x (putX w X) = some ((), putX w (xsh X d (sel (X.2.2.2.2.1 d) (upd (X.2.2.2.2.1 d).2 i (narI ((X.2.2.2.2.1 d).1 3) x))))) := by
  rw [X_sh w X hd, p_set (s_lt hd) hn he hi x, X_sh' w X hd]
theorem S_becomeEmpty (w : aW) (X : aX) {d : Nat} (hd : d < 8) : f_X1_becomeEmpty (34 + 2 * d) (putX w X) = some ((), putX w (xsh X d (sset (sset (X.2.2.2.2.1 d) 0 0) 4 0))) := by
  rw [X_sh w X hd, p_becomeEmpty (s_lt hd), X_sh' w X hd]
theorem S_holdBeast (w : aW) (X : aX) {d : Nat} (hd : d < 8) (k f : Int32) : f_X1_holdBeast (34 + 2 * d) k f (putX w X) = some ((), putX w (xsh X d (sset (sset (sset (sset (X.2.2.2.2.1 d) 0 1) 4 0) 1 k) 2 f))) := by
  rw [X_sh w X hd, p_holdBeast (s_lt hd), X_sh' w X hd]
theorem S_holdRow (w : aW) (X : aX) {d : Nat} (hd : d < 8) (k : Int32) {n : Nat} (hn : n ≤ 100) : f_X1_holdRow (34 + 2 * d) k (nI n) (putX w X) = some ((), putX w (xsh X d (rowS (X.2.2.2.2.1 d) k n))) := by
  rw [X_sh w X hd, p_holdRow (s_lt hd) _ k hn, X_sh' w X hd]
