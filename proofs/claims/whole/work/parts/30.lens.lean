/-! PURE: a Mountain in a world, counting loops, bits -/
abbrev aK : Type := Nat × (Nat → Int32) × (Nat → Nat → Int32)
def tr (n : Nat) (f : Nat → Int32) : Nat → Int32 := fun i => if i < n then f i else 0
def kln (k : Nat) : Nat := if k < 5 then 9 else 5
/-- the Mountain κ at the cells j .. j + 9 of a world: how many beasts; day, alive, moved; sort figure place hunger caller purse spot speech grief -/
def putM (w : aW) (j : Nat) (κ : aK) : aW := fun i =>
  if i = j then .inr (0, [.int (κ.2.1 0), .int (nI κ.1), .int (κ.2.1 1), .int (κ.2.1 2), .ref (j + 1), .ref (j + 2), .ref (j + 3), .ref (j + 4), .ref (j + 5), .ref (j + 6), .ref (j + 7), .ref (j + 8), .ref (j + 9)])
  else if j < i ∧ i ≤ j + 9 then .inl (0, kln (i - j - 1), .inl (tr (kln (i - j - 1)) (κ.2.2 (i - j - 1))))
  else w i
def karr (κ : aK) (k : Nat) (f : Nat → Int32) : aK := (κ.1, κ.2.1, fun k' => if k' = k then f else κ.2.2 k')
def kset (κ : aK) (k i : Nat) (x : Int32) : aK := karr κ k (upd (κ.2.2 k) i x)
def kint (κ : aK) (a : Nat) (x : Int32) : aK := (κ.1, fun z => if z = a then x else κ.2.1 z, κ.2.2)
theorem kset_1 (κ : aK) (k i : Nat) (x : Int32) : (kset κ k i x).1 = κ.1 := rfl
theorem kset_21 (κ : aK) (k i : Nat) (x : Int32) : (kset κ k i x).2.1 = κ.2.1 := rfl
theorem kset_22 (κ : aK) (k i : Nat) (x : Int32) (k' i' : Nat) : (kset κ k i x).2.2 k' i' = if k' = k ∧ i' = i then x else κ.2.2 k' i' := by
  unfold kset karr upd
  by_cases h : k' = k
  · subst h; by_cases h2 : i' = i <;> simp [h2]
  · simp [h]
theorem kint_1 (κ : aK) (a : Nat) (x : Int32) : (kint κ a x).1 = κ.1 := rfl
theorem kint_21 (κ : aK) (a : Nat) (x : Int32) (z : Nat) : (kint κ a x).2.1 z = if z = a then x else κ.2.1 z := rfl
theorem kint_22 (κ : aK) (a : Nat) (x : Int32) : (kint κ a x).2.2 = κ.2.2 := rfl
theorem tr_upd {n i : Nat} (f : Nat → Int32) (x : Int32) (h : i < n) : upd (tr n f) i x = tr n (upd f i x) := by
  funext z
  unfold upd tr
  by_cases hz : z = i
  · subst hz; simp [h]
  · simp [hz]
theorem tr_at {n i : Nat} (f : Nat → Int32) (h : i < n) : tr n f i = f i := if_pos h
theorem putM_arr (w : aW) (j : Nat) (κ : aK) (k : Nat) (hk : k < 9) : putM w j κ (j + (k + 1)) = .inl (0, kln k, .inl (tr (kln k) (κ.2.2 k))) := by
  unfold putM
  rw [if_neg (by omega), if_pos (by omega), show j + (k + 1) - j - 1 = k by omega]
theorem putM_obj (w : aW) (j : Nat) (κ : aK) : putM w j κ j = .inr (0, [.int (κ.2.1 0), .int (nI κ.1), .int (κ.2.1 1), .int (κ.2.1 2), .ref (j + 1), .ref (j + 2), .ref (j + 3), .ref (j + 4), .ref (j + 5), .ref (j + 6), .ref (j + 7), .ref (j + 8), .ref (j + 9)]) := if_pos rfl
theorem putM_up (w : aW) (j : Nat) (κ : aK) (k : Nat) (hk : k < 9) (f : Nat → Int32) : a_up (putM w j κ) (j + (k + 1)) (.inl (0, kln k, .inl (tr (kln k) f))) = putM w j (karr κ k f) := by
  funext z
  unfold a_up
  by_cases hz : z = j + (k + 1)
  · subst hz
    rw [if_pos rfl, putM_arr _ _ _ _ hk]
    simp [karr]
  · rw [if_neg hz]
    unfold putM
    by_cases h1 : z = j
    · rw [if_pos h1, if_pos h1]; rfl
    · rw [if_neg h1, if_neg h1]
      by_cases h2 : j < z ∧ z ≤ j + 9
      · rw [if_pos h2, if_pos h2]
        have h3 : z - j - 1 ≠ k := by omega
        simp [karr, h3]
      · rw [if_neg h2, if_neg h2]
theorem putM_ia {w : aW} {j : Nat} (hj : j + 9 < 75) (κ : aK) (k : Nat) (hk : k < 9) : a_ia (putM w j κ) (j + (k + 1)) = some (kln k, tr (kln k) (κ.2.2 k)) := by
  unfold a_ia
  rw [if_pos (by show j + (k + 1) < 75; omega), putM_arr _ _ _ _ hk]
  rfl
theorem ix_ok {i n : Nat} (h : i < n) (hn : n < 2 ^ 31) : ¬ (nI i < 0 ∨ n ≤ (nI i).toNatClampNeg) := nI_in h hn
theorem gA_M {w : aW} {j : Nat} (hj : j + 9 < 75) (κ : aK) (k : Nat) (hk : k < 9) {i : Nat} (hi : i < kln k) : gA (putM w j κ) (j + (k + 1)) (nI i) = some (κ.2.2 k i) := by
  unfold gA
  have hn : kln k < 2 ^ 31 := by unfold kln; split <;> decide
  rw [putM_ia hj κ k hk]
  simp only [Option.bind_some]
  rw [if_neg (ix_ok hi hn), nI_clamp (by omega), tr_at _ hi]
theorem sA_M {w : aW} {j : Nat} (hj : j + 9 < 75) (κ : aK) (k : Nat) (hk : k < 9) {i : Nat} (hi : i < kln k) (x : Int32) : sA (putM w j κ) (j + (k + 1)) (nI i) x = some (putM w j (kset κ k i x)) := by
  unfold sA
  have hn : kln k < 2 ^ 31 := by unfold kln; split <;> decide
  rw [putM_ia hj κ k hk]
  simp only [Option.bind_some]
  rw [if_neg (ix_ok hi hn), nI_clamp (by omega), tr_upd _ _ hi, putM_up _ _ _ _ hk]
  rfl
theorem a_fld_M {w : aW} {j : Nat} (hj : j + 9 < 75) (κ : aK) (k : Nat) : a_fld 0 (putM w j κ) j k = ([.int (κ.2.1 0), .int (nI κ.1), .int (κ.2.1 1), .int (κ.2.1 2), .ref (j + 1), .ref (j + 2), .ref (j + 3), .ref (j + 4), .ref (j + 5), .ref (j + 6), .ref (j + 7), .ref (j + 8), .ref (j + 9)] : List Value)[k]? := by
  unfold a_fld
  rw [if_pos (by show j < 75; omega), putM_obj]
  rfl
theorem putM_set {w : aW} {j : Nat} {κ κ' : aK} (h2 : κ'.2.2 = κ.2.2) : a_up (putM w j κ) j (.inr (0, [.int (κ'.2.1 0), .int (nI κ'.1), .int (κ'.2.1 1), .int (κ'.2.1 2), .ref (j + 1), .ref (j + 2), .ref (j + 3), .ref (j + 4), .ref (j + 5), .ref (j + 6), .ref (j + 7), .ref (j + 8), .ref (j + 9)])) = putM w j κ' := by
  funext z
  unfold a_up putM
  by_cases h1 : z = j
  · rw [if_pos h1, if_pos h1]
  · rw [if_neg h1, if_neg h1, if_neg h1, h2]
theorem sF_M0 {w : aW} {j : Nat} (hj : j + 9 < 75) (κ : aK) (x : Int32) : sF 0 (putM w j κ) j 0 (.int x) = some (putM w j (kint κ 0 x)) := by
  unfold sF
  rw [if_pos (by show j < 75; omega), putM_obj]
  show (if (0 : Nat) = 0 ∧ 0 < 13 then some _ else none) = _
  rw [if_pos ⟨rfl, by decide⟩, ← putM_set (w := w) (j := j) (κ := κ) (κ' := kint κ 0 x) rfl]
  rfl
theorem sF_M1 {w : aW} {j : Nat} (hj : j + 9 < 75) (κ : aK) (m : Nat) : sF 0 (putM w j κ) j 1 (.int (nI m)) = some (putM w j (m, κ.2)) := by
  unfold sF
  rw [if_pos (by show j < 75; omega), putM_obj]
  show (if (0 : Nat) = 0 ∧ 1 < 13 then some _ else none) = _
  rw [if_pos ⟨rfl, by decide⟩, ← putM_set (w := w) (j := j) (κ := κ) (κ' := (m, κ.2)) rfl]
  rfl
theorem sF_M2 {w : aW} {j : Nat} (hj : j + 9 < 75) (κ : aK) (x : Int32) : sF 0 (putM w j κ) j 2 (.int x) = some (putM w j (kint κ 1 x)) := by
  unfold sF
  rw [if_pos (by show j < 75; omega), putM_obj]
  show (if (0 : Nat) = 0 ∧ 2 < 13 then some _ else none) = _
  rw [if_pos ⟨rfl, by decide⟩, ← putM_set (w := w) (j := j) (κ := κ) (κ' := kint κ 1 x) rfl]
  rfl
theorem sF_M3 {w : aW} {j : Nat} (hj : j + 9 < 75) (κ : aK) (x : Int32) : sF 0 (putM w j κ) j 3 (.int x) = some (putM w j (kint κ 2 x)) := by
  unfold sF
  rw [if_pos (by show j < 75; omega), putM_obj]
  show (if (0 : Nat) = 0 ∧ 3 < 13 then some _ else none) = _
  rw [if_pos ⟨rfl, by decide⟩, ← putM_set (w := w) (j := j) (κ := κ) (κ' := kint κ 2 x) rfl]
  rfl
theorem cV_M {α : Type} {w : aW} {j : Nat} (hj : j + 9 < 75) (κ : aK) (x : Option α) : cV 0 (putM w j κ) j x = x := by
  unfold cV a_isOb
  rw [putM_obj, decide_eq_true (show j < a_N from by show j < 75; omega)]
  rfl
theorem bk_some {α β : Type} (r : α) (w : aW) (g : α → aW → Option β) : bk (some (r, w)) g = g r w := rfl
theorem bind_some' {α β : Type} (x : α) (g : α → Option β) : (some x).bind g = g x := rfl
theorem gI_M0 {w : aW} {j : Nat} (hj : j + 9 < 75) (κ : aK) : gI 0 (putM w j κ) j 0 = some (κ.2.1 0) := by
  unfold gI
  rw [a_fld_M hj]
  rfl
theorem gI_M1 {w : aW} {j : Nat} (hj : j + 9 < 75) (κ : aK) : gI 0 (putM w j κ) j 1 = some (nI κ.1) := by
  unfold gI
  rw [a_fld_M hj]
  rfl
theorem gI_M2 {w : aW} {j : Nat} (hj : j + 9 < 75) (κ : aK) : gI 0 (putM w j κ) j 2 = some (κ.2.1 1) := by
  unfold gI
  rw [a_fld_M hj]
  rfl
theorem gI_M3 {w : aW} {j : Nat} (hj : j + 9 < 75) (κ : aK) : gI 0 (putM w j κ) j 3 = some (κ.2.1 2) := by
  unfold gI
  rw [a_fld_M hj]
  rfl
theorem gR_M4 {w : aW} {j : Nat} (hj : j + 9 < 75) (κ : aK) : gR 0 (putM w j κ) j 4 = some (j + 1) := by
  unfold gR
  rw [a_fld_M hj]
  rfl
theorem gR_M5 {w : aW} {j : Nat} (hj : j + 9 < 75) (κ : aK) : gR 0 (putM w j κ) j 5 = some (j + 2) := by
  unfold gR
  rw [a_fld_M hj]
  rfl
theorem gR_M6 {w : aW} {j : Nat} (hj : j + 9 < 75) (κ : aK) : gR 0 (putM w j κ) j 6 = some (j + 3) := by
  unfold gR
  rw [a_fld_M hj]
  rfl
theorem gR_M7 {w : aW} {j : Nat} (hj : j + 9 < 75) (κ : aK) : gR 0 (putM w j κ) j 7 = some (j + 4) := by
  unfold gR
  rw [a_fld_M hj]
  rfl
theorem gR_M8 {w : aW} {j : Nat} (hj : j + 9 < 75) (κ : aK) : gR 0 (putM w j κ) j 8 = some (j + 5) := by
  unfold gR
  rw [a_fld_M hj]
  rfl
theorem gR_M9 {w : aW} {j : Nat} (hj : j + 9 < 75) (κ : aK) : gR 0 (putM w j κ) j 9 = some (j + 6) := by
  unfold gR
  rw [a_fld_M hj]
  rfl
theorem gR_M10 {w : aW} {j : Nat} (hj : j + 9 < 75) (κ : aK) : gR 0 (putM w j κ) j 10 = some (j + 7) := by
  unfold gR
  rw [a_fld_M hj]
  rfl
theorem gR_M11 {w : aW} {j : Nat} (hj : j + 9 < 75) (κ : aK) : gR 0 (putM w j κ) j 11 = some (j + 8) := by
  unfold gR
  rw [a_fld_M hj]
  rfl
theorem gR_M12 {w : aW} {j : Nat} (hj : j + 9 < 75) (κ : aK) : gR 0 (putM w j κ) j 12 = some (j + 9) := by
  unfold gR
  rw [a_fld_M hj]
  rfl
theorem gA_M0 {w : aW} {j : Nat} (hj : j + 9 < 75) (κ : aK) {i : Nat} (hi : i < 9) : gA (putM w j κ) (j + 1) (nI i) = some (κ.2.2 0 i) := gA_M hj κ 0 (by decide) hi
theorem sA_M0 {w : aW} {j : Nat} (hj : j + 9 < 75) (κ : aK) {i : Nat} (hi : i < 9) (x : Int32) : sA (putM w j κ) (j + 1) (nI i) x = some (putM w j (kset κ 0 i x)) := sA_M hj κ 0 (by decide) hi x
theorem gA_M1 {w : aW} {j : Nat} (hj : j + 9 < 75) (κ : aK) {i : Nat} (hi : i < 9) : gA (putM w j κ) (j + 2) (nI i) = some (κ.2.2 1 i) := gA_M hj κ 1 (by decide) hi
theorem sA_M1 {w : aW} {j : Nat} (hj : j + 9 < 75) (κ : aK) {i : Nat} (hi : i < 9) (x : Int32) : sA (putM w j κ) (j + 2) (nI i) x = some (putM w j (kset κ 1 i x)) := sA_M hj κ 1 (by decide) hi x
theorem gA_M2 {w : aW} {j : Nat} (hj : j + 9 < 75) (κ : aK) {i : Nat} (hi : i < 9) : gA (putM w j κ) (j + 3) (nI i) = some (κ.2.2 2 i) := gA_M hj κ 2 (by decide) hi
theorem sA_M2 {w : aW} {j : Nat} (hj : j + 9 < 75) (κ : aK) {i : Nat} (hi : i < 9) (x : Int32) : sA (putM w j κ) (j + 3) (nI i) x = some (putM w j (kset κ 2 i x)) := sA_M hj κ 2 (by decide) hi x
theorem gA_M3 {w : aW} {j : Nat} (hj : j + 9 < 75) (κ : aK) {i : Nat} (hi : i < 9) : gA (putM w j κ) (j + 4) (nI i) = some (κ.2.2 3 i) := gA_M hj κ 3 (by decide) hi
theorem sA_M3 {w : aW} {j : Nat} (hj : j + 9 < 75) (κ : aK) {i : Nat} (hi : i < 9) (x : Int32) : sA (putM w j κ) (j + 4) (nI i) x = some (putM w j (kset κ 3 i x)) := sA_M hj κ 3 (by decide) hi x
theorem gA_M4 {w : aW} {j : Nat} (hj : j + 9 < 75) (κ : aK) {i : Nat} (hi : i < 9) : gA (putM w j κ) (j + 5) (nI i) = some (κ.2.2 4 i) := gA_M hj κ 4 (by decide) hi
theorem sA_M4 {w : aW} {j : Nat} (hj : j + 9 < 75) (κ : aK) {i : Nat} (hi : i < 9) (x : Int32) : sA (putM w j κ) (j + 5) (nI i) x = some (putM w j (kset κ 4 i x)) := sA_M hj κ 4 (by decide) hi x
theorem gA_M5 {w : aW} {j : Nat} (hj : j + 9 < 75) (κ : aK) {i : Nat} (hi : i < 5) : gA (putM w j κ) (j + 6) (nI i) = some (κ.2.2 5 i) := gA_M hj κ 5 (by decide) hi
theorem sA_M5 {w : aW} {j : Nat} (hj : j + 9 < 75) (κ : aK) {i : Nat} (hi : i < 5) (x : Int32) : sA (putM w j κ) (j + 6) (nI i) x = some (putM w j (kset κ 5 i x)) := sA_M hj κ 5 (by decide) hi x
theorem gA_M6 {w : aW} {j : Nat} (hj : j + 9 < 75) (κ : aK) {i : Nat} (hi : i < 5) : gA (putM w j κ) (j + 7) (nI i) = some (κ.2.2 6 i) := gA_M hj κ 6 (by decide) hi
theorem sA_M6 {w : aW} {j : Nat} (hj : j + 9 < 75) (κ : aK) {i : Nat} (hi : i < 5) (x : Int32) : sA (putM w j κ) (j + 7) (nI i) x = some (putM w j (kset κ 6 i x)) := sA_M hj κ 6 (by decide) hi x
theorem gA_M7 {w : aW} {j : Nat} (hj : j + 9 < 75) (κ : aK) {i : Nat} (hi : i < 5) : gA (putM w j κ) (j + 8) (nI i) = some (κ.2.2 7 i) := gA_M hj κ 7 (by decide) hi
theorem sA_M7 {w : aW} {j : Nat} (hj : j + 9 < 75) (κ : aK) {i : Nat} (hi : i < 5) (x : Int32) : sA (putM w j κ) (j + 8) (nI i) x = some (putM w j (kset κ 7 i x)) := sA_M hj κ 7 (by decide) hi x
theorem gA_M8 {w : aW} {j : Nat} (hj : j + 9 < 75) (κ : aK) {i : Nat} (hi : i < 5) : gA (putM w j κ) (j + 9) (nI i) = some (κ.2.2 8 i) := gA_M hj κ 8 (by decide) hi
theorem sA_M8 {w : aW} {j : Nat} (hj : j + 9 < 75) (κ : aK) {i : Nat} (hi : i < 5) (x : Int32) : sA (putM w j κ) (j + 9) (nI i) x = some (putM w j (kset κ 8 i x)) := sA_M hj κ 8 (by decide) hi x
/-! counting loops: from i, m turns more, the counter just ahead of the world -/
def itr {σ : Type} (F : Nat → σ → σ) : Nat → Nat → σ → σ
  | _, 0, s => s
  | i, m + 1, s => itr F (i + 1) m (F i s)
/-- .. that may be left at a turn -/
def itx {σ ρ : Type} (F : Nat → σ → σ ⊕ ρ) (fin : σ → ρ) : Nat → Nat → σ → ρ
  | _, 0, s => fin s
  | i, m + 1, s => match F i s with
    | .inl s' => itx F fin (i + 1) m s'
    | .inr r => r
theorem for2 {σ β : Type} (rep : σ → aW) (B : (Int32 → aW → Option β) → Int32 → aW → Option β) (e : Nat) (F : Nat → σ → σ) (fin : σ → Option β) (inv : Nat → σ → Prop)
    (hs : ∀ k i s, i < e → inv i s → B k (nI i) (rep s) = k (nI (i + 1)) (rep (F i s))) (hi : ∀ i s, i < e → inv i s → inv (i + 1) (F i s)) (hx : ∀ k s, inv e s → B k (nI e) (rep s) = fin s) :
    ∀ (m i : Nat) (s : σ) (n : Nat), i + m = e → m < n → inv i s → loop2 B n (nI i) (rep s) = fin (itr F i m s)
  | 0, i, s, n + 1, hm, _, h => by
    have : i = e := by omega
    subst this
    exact hx _ s h
  | m + 1, i, s, n + 1, hm, hn, h => by
    show B (loop2 B n) (nI i) (rep s) = _
    rw [hs _ i s (by omega) h]
    exact for2 rep B e F fin inv hs hi hx m (i + 1) (F i s) n (by omega) (by omega) (hi i s (by omega) h)
theorem fox2 {σ β : Type} (rep : σ → aW) (B : (Int32 → aW → Option β) → Int32 → aW → Option β) (e : Nat) (F : Nat → σ → σ ⊕ Option β) (fin : σ → Option β) (inv : Nat → σ → Prop)
    (hs : ∀ k i s s', i < e → inv i s → F i s = .inl s' → B k (nI i) (rep s) = k (nI (i + 1)) (rep s')) (hr : ∀ k i s o, i < e → inv i s → F i s = .inr o → B k (nI i) (rep s) = o) (hi : ∀ i s s', i < e → inv i s → F i s = .inl s' → inv (i + 1) s') (hx : ∀ k s, inv e s → B k (nI e) (rep s) = fin s) :
    ∀ (m i : Nat) (s : σ) (n : Nat), i + m = e → m < n → inv i s → loop2 B n (nI i) (rep s) = itx F fin i m s
  | 0, i, s, n + 1, hm, _, h => by
    have : i = e := by omega
    subst this
    exact hx _ s h
  | m + 1, i, s, n + 1, hm, hn, h => by
    show B (loop2 B n) (nI i) (rep s) = _
    unfold itx
    match hF : F i s with
    | .inl s' =>
      rw [hs _ i s s' (by omega) h hF]
      exact fox2 rep B e F fin inv hs hr hi hx m (i + 1) s' n (by omega) (by omega) (hi i s s' (by omega) h hF)
    | .inr o => exact hr _ i s o (by omega) h hF
theorem for3 {σ β α0 : Type} (f0 : σ → α0) (rep : σ → aW) (B : (α0 → Int32 → aW → Option β) → α0 → Int32 → aW → Option β) (e : Nat) (F : Nat → σ → σ) (fin : σ → Option β) (inv : Nat → σ → Prop)
    (hs : ∀ k i s, i < e → inv i s → B k (f0 s) (nI i) (rep s) = k (f0 (F i s)) (nI (i + 1)) (rep (F i s))) (hi : ∀ i s, i < e → inv i s → inv (i + 1) (F i s)) (hx : ∀ k s, inv e s → B k (f0 s) (nI e) (rep s) = fin s) :
    ∀ (m i : Nat) (s : σ) (n : Nat), i + m = e → m < n → inv i s → loop3 B n (f0 s) (nI i) (rep s) = fin (itr F i m s)
  | 0, i, s, n + 1, hm, _, h => by
    have : i = e := by omega
    subst this
    exact hx _ s h
  | m + 1, i, s, n + 1, hm, hn, h => by
    show B (loop3 B n) (f0 s) (nI i) (rep s) = _
    rw [hs _ i s (by omega) h]
    exact for3 f0 rep B e F fin inv hs hi hx m (i + 1) (F i s) n (by omega) (by omega) (hi i s (by omega) h)
theorem fox3 {σ β α0 : Type} (f0 : σ → α0) (rep : σ → aW) (B : (α0 → Int32 → aW → Option β) → α0 → Int32 → aW → Option β) (e : Nat) (F : Nat → σ → σ ⊕ Option β) (fin : σ → Option β) (inv : Nat → σ → Prop)
    (hs : ∀ k i s s', i < e → inv i s → F i s = .inl s' → B k (f0 s) (nI i) (rep s) = k (f0 s') (nI (i + 1)) (rep s')) (hr : ∀ k i s o, i < e → inv i s → F i s = .inr o → B k (f0 s) (nI i) (rep s) = o) (hi : ∀ i s s', i < e → inv i s → F i s = .inl s' → inv (i + 1) s') (hx : ∀ k s, inv e s → B k (f0 s) (nI e) (rep s) = fin s) :
    ∀ (m i : Nat) (s : σ) (n : Nat), i + m = e → m < n → inv i s → loop3 B n (f0 s) (nI i) (rep s) = itx F fin i m s
  | 0, i, s, n + 1, hm, _, h => by
    have : i = e := by omega
    subst this
    exact hx _ s h
  | m + 1, i, s, n + 1, hm, hn, h => by
    show B (loop3 B n) (f0 s) (nI i) (rep s) = _
    unfold itx
    match hF : F i s with
    | .inl s' =>
      rw [hs _ i s s' (by omega) h hF]
      exact fox3 f0 rep B e F fin inv hs hr hi hx m (i + 1) s' n (by omega) (by omega) (hi i s s' (by omega) h hF)
    | .inr o => exact hr _ i s o (by omega) h hF
theorem for4 {σ β α0 α1 : Type} (f0 : σ → α0) (f1 : σ → α1) (rep : σ → aW) (B : (α0 → α1 → Int32 → aW → Option β) → α0 → α1 → Int32 → aW → Option β) (e : Nat) (F : Nat → σ → σ) (fin : σ → Option β) (inv : Nat → σ → Prop)
    (hs : ∀ k i s, i < e → inv i s → B k (f0 s) (f1 s) (nI i) (rep s) = k (f0 (F i s)) (f1 (F i s)) (nI (i + 1)) (rep (F i s))) (hi : ∀ i s, i < e → inv i s → inv (i + 1) (F i s)) (hx : ∀ k s, inv e s → B k (f0 s) (f1 s) (nI e) (rep s) = fin s) :
    ∀ (m i : Nat) (s : σ) (n : Nat), i + m = e → m < n → inv i s → loop4 B n (f0 s) (f1 s) (nI i) (rep s) = fin (itr F i m s)
  | 0, i, s, n + 1, hm, _, h => by
    have : i = e := by omega
    subst this
    exact hx _ s h
  | m + 1, i, s, n + 1, hm, hn, h => by
    show B (loop4 B n) (f0 s) (f1 s) (nI i) (rep s) = _
    rw [hs _ i s (by omega) h]
    exact for4 f0 f1 rep B e F fin inv hs hi hx m (i + 1) (F i s) n (by omega) (by omega) (hi i s (by omega) h)
theorem fox4 {σ β α0 α1 : Type} (f0 : σ → α0) (f1 : σ → α1) (rep : σ → aW) (B : (α0 → α1 → Int32 → aW → Option β) → α0 → α1 → Int32 → aW → Option β) (e : Nat) (F : Nat → σ → σ ⊕ Option β) (fin : σ → Option β) (inv : Nat → σ → Prop)
    (hs : ∀ k i s s', i < e → inv i s → F i s = .inl s' → B k (f0 s) (f1 s) (nI i) (rep s) = k (f0 s') (f1 s') (nI (i + 1)) (rep s')) (hr : ∀ k i s o, i < e → inv i s → F i s = .inr o → B k (f0 s) (f1 s) (nI i) (rep s) = o) (hi : ∀ i s s', i < e → inv i s → F i s = .inl s' → inv (i + 1) s') (hx : ∀ k s, inv e s → B k (f0 s) (f1 s) (nI e) (rep s) = fin s) :
    ∀ (m i : Nat) (s : σ) (n : Nat), i + m = e → m < n → inv i s → loop4 B n (f0 s) (f1 s) (nI i) (rep s) = itx F fin i m s
  | 0, i, s, n + 1, hm, _, h => by
    have : i = e := by omega
    subst this
    exact hx _ s h
  | m + 1, i, s, n + 1, hm, hn, h => by
    show B (loop4 B n) (f0 s) (f1 s) (nI i) (rep s) = _
    unfold itx
    match hF : F i s with
    | .inl s' =>
      rw [hs _ i s s' (by omega) h hF]
      exact fox4 f0 f1 rep B e F fin inv hs hr hi hx m (i + 1) s' n (by omega) (by omega) (hi i s s' (by omega) h hF)
    | .inr o => exact hr _ i s o (by omega) h hF
theorem for5 {σ β α0 α1 α2 : Type} (f0 : σ → α0) (f1 : σ → α1) (f2 : σ → α2) (rep : σ → aW) (B : (α0 → α1 → α2 → Int32 → aW → Option β) → α0 → α1 → α2 → Int32 → aW → Option β) (e : Nat) (F : Nat → σ → σ) (fin : σ → Option β) (inv : Nat → σ → Prop)
    (hs : ∀ k i s, i < e → inv i s → B k (f0 s) (f1 s) (f2 s) (nI i) (rep s) = k (f0 (F i s)) (f1 (F i s)) (f2 (F i s)) (nI (i + 1)) (rep (F i s))) (hi : ∀ i s, i < e → inv i s → inv (i + 1) (F i s)) (hx : ∀ k s, inv e s → B k (f0 s) (f1 s) (f2 s) (nI e) (rep s) = fin s) :
    ∀ (m i : Nat) (s : σ) (n : Nat), i + m = e → m < n → inv i s → loop5 B n (f0 s) (f1 s) (f2 s) (nI i) (rep s) = fin (itr F i m s)
  | 0, i, s, n + 1, hm, _, h => by
    have : i = e := by omega
    subst this
    exact hx _ s h
  | m + 1, i, s, n + 1, hm, hn, h => by
    show B (loop5 B n) (f0 s) (f1 s) (f2 s) (nI i) (rep s) = _
    rw [hs _ i s (by omega) h]
    exact for5 f0 f1 f2 rep B e F fin inv hs hi hx m (i + 1) (F i s) n (by omega) (by omega) (hi i s (by omega) h)
theorem fox5 {σ β α0 α1 α2 : Type} (f0 : σ → α0) (f1 : σ → α1) (f2 : σ → α2) (rep : σ → aW) (B : (α0 → α1 → α2 → Int32 → aW → Option β) → α0 → α1 → α2 → Int32 → aW → Option β) (e : Nat) (F : Nat → σ → σ ⊕ Option β) (fin : σ → Option β) (inv : Nat → σ → Prop)
    (hs : ∀ k i s s', i < e → inv i s → F i s = .inl s' → B k (f0 s) (f1 s) (f2 s) (nI i) (rep s) = k (f0 s') (f1 s') (f2 s') (nI (i + 1)) (rep s')) (hr : ∀ k i s o, i < e → inv i s → F i s = .inr o → B k (f0 s) (f1 s) (f2 s) (nI i) (rep s) = o) (hi : ∀ i s s', i < e → inv i s → F i s = .inl s' → inv (i + 1) s') (hx : ∀ k s, inv e s → B k (f0 s) (f1 s) (f2 s) (nI e) (rep s) = fin s) :
    ∀ (m i : Nat) (s : σ) (n : Nat), i + m = e → m < n → inv i s → loop5 B n (f0 s) (f1 s) (f2 s) (nI i) (rep s) = itx F fin i m s
  | 0, i, s, n + 1, hm, _, h => by
    have : i = e := by omega
    subst this
    exact hx _ s h
  | m + 1, i, s, n + 1, hm, hn, h => by
    show B (loop5 B n) (f0 s) (f1 s) (f2 s) (nI i) (rep s) = _
    unfold itx
    match hF : F i s with
    | .inl s' =>
      rw [hs _ i s s' (by omega) h hF]
      exact fox5 f0 f1 f2 rep B e F fin inv hs hr hi hx m (i + 1) s' n (by omega) (by omega) (hi i s s' (by omega) h hF)
    | .inr o => exact hr _ i s o (by omega) h hF
theorem for6 {σ β α0 α1 α2 α3 : Type} (f0 : σ → α0) (f1 : σ → α1) (f2 : σ → α2) (f3 : σ → α3) (rep : σ → aW) (B : (α0 → α1 → α2 → α3 → Int32 → aW → Option β) → α0 → α1 → α2 → α3 → Int32 → aW → Option β) (e : Nat) (F : Nat → σ → σ) (fin : σ → Option β) (inv : Nat → σ → Prop)
    (hs : ∀ k i s, i < e → inv i s → B k (f0 s) (f1 s) (f2 s) (f3 s) (nI i) (rep s) = k (f0 (F i s)) (f1 (F i s)) (f2 (F i s)) (f3 (F i s)) (nI (i + 1)) (rep (F i s))) (hi : ∀ i s, i < e → inv i s → inv (i + 1) (F i s)) (hx : ∀ k s, inv e s → B k (f0 s) (f1 s) (f2 s) (f3 s) (nI e) (rep s) = fin s) :
    ∀ (m i : Nat) (s : σ) (n : Nat), i + m = e → m < n → inv i s → loop6 B n (f0 s) (f1 s) (f2 s) (f3 s) (nI i) (rep s) = fin (itr F i m s)
  | 0, i, s, n + 1, hm, _, h => by
    have : i = e := by omega
    subst this
    exact hx _ s h
  | m + 1, i, s, n + 1, hm, hn, h => by
    show B (loop6 B n) (f0 s) (f1 s) (f2 s) (f3 s) (nI i) (rep s) = _
    rw [hs _ i s (by omega) h]
    exact for6 f0 f1 f2 f3 rep B e F fin inv hs hi hx m (i + 1) (F i s) n (by omega) (by omega) (hi i s (by omega) h)
theorem fox6 {σ β α0 α1 α2 α3 : Type} (f0 : σ → α0) (f1 : σ → α1) (f2 : σ → α2) (f3 : σ → α3) (rep : σ → aW) (B : (α0 → α1 → α2 → α3 → Int32 → aW → Option β) → α0 → α1 → α2 → α3 → Int32 → aW → Option β) (e : Nat) (F : Nat → σ → σ ⊕ Option β) (fin : σ → Option β) (inv : Nat → σ → Prop)
    (hs : ∀ k i s s', i < e → inv i s → F i s = .inl s' → B k (f0 s) (f1 s) (f2 s) (f3 s) (nI i) (rep s) = k (f0 s') (f1 s') (f2 s') (f3 s') (nI (i + 1)) (rep s')) (hr : ∀ k i s o, i < e → inv i s → F i s = .inr o → B k (f0 s) (f1 s) (f2 s) (f3 s) (nI i) (rep s) = o) (hi : ∀ i s s', i < e → inv i s → F i s = .inl s' → inv (i + 1) s') (hx : ∀ k s, inv e s → B k (f0 s) (f1 s) (f2 s) (f3 s) (nI e) (rep s) = fin s) :
    ∀ (m i : Nat) (s : σ) (n : Nat), i + m = e → m < n → inv i s → loop6 B n (f0 s) (f1 s) (f2 s) (f3 s) (nI i) (rep s) = itx F fin i m s
  | 0, i, s, n + 1, hm, _, h => by
    have : i = e := by omega
    subst this
    exact hx _ s h
  | m + 1, i, s, n + 1, hm, hn, h => by
    show B (loop6 B n) (f0 s) (f1 s) (f2 s) (f3 s) (nI i) (rep s) = _
    unfold itx
    match hF : F i s with
    | .inl s' =>
      rw [hs _ i s s' (by omega) h hF]
      exact fox6 f0 f1 f2 f3 rep B e F fin inv hs hr hi hx m (i + 1) s' n (by omega) (by omega) (hi i s s' (by omega) h hF)
    | .inr o => exact hr _ i s o (by omega) h hF
theorem for7 {σ β α0 α1 α2 α3 α4 : Type} (f0 : σ → α0) (f1 : σ → α1) (f2 : σ → α2) (f3 : σ → α3) (f4 : σ → α4) (rep : σ → aW) (B : (α0 → α1 → α2 → α3 → α4 → Int32 → aW → Option β) → α0 → α1 → α2 → α3 → α4 → Int32 → aW → Option β) (e : Nat) (F : Nat → σ → σ) (fin : σ → Option β) (inv : Nat → σ → Prop)
    (hs : ∀ k i s, i < e → inv i s → B k (f0 s) (f1 s) (f2 s) (f3 s) (f4 s) (nI i) (rep s) = k (f0 (F i s)) (f1 (F i s)) (f2 (F i s)) (f3 (F i s)) (f4 (F i s)) (nI (i + 1)) (rep (F i s))) (hi : ∀ i s, i < e → inv i s → inv (i + 1) (F i s)) (hx : ∀ k s, inv e s → B k (f0 s) (f1 s) (f2 s) (f3 s) (f4 s) (nI e) (rep s) = fin s) :
    ∀ (m i : Nat) (s : σ) (n : Nat), i + m = e → m < n → inv i s → loop7 B n (f0 s) (f1 s) (f2 s) (f3 s) (f4 s) (nI i) (rep s) = fin (itr F i m s)
  | 0, i, s, n + 1, hm, _, h => by
    have : i = e := by omega
    subst this
    exact hx _ s h
  | m + 1, i, s, n + 1, hm, hn, h => by
    show B (loop7 B n) (f0 s) (f1 s) (f2 s) (f3 s) (f4 s) (nI i) (rep s) = _
    rw [hs _ i s (by omega) h]
    exact for7 f0 f1 f2 f3 f4 rep B e F fin inv hs hi hx m (i + 1) (F i s) n (by omega) (by omega) (hi i s (by omega) h)
theorem fox7 {σ β α0 α1 α2 α3 α4 : Type} (f0 : σ → α0) (f1 : σ → α1) (f2 : σ → α2) (f3 : σ → α3) (f4 : σ → α4) (rep : σ → aW) (B : (α0 → α1 → α2 → α3 → α4 → Int32 → aW → Option β) → α0 → α1 → α2 → α3 → α4 → Int32 → aW → Option β) (e : Nat) (F : Nat → σ → σ ⊕ Option β) (fin : σ → Option β) (inv : Nat → σ → Prop)
    (hs : ∀ k i s s', i < e → inv i s → F i s = .inl s' → B k (f0 s) (f1 s) (f2 s) (f3 s) (f4 s) (nI i) (rep s) = k (f0 s') (f1 s') (f2 s') (f3 s') (f4 s') (nI (i + 1)) (rep s')) (hr : ∀ k i s o, i < e → inv i s → F i s = .inr o → B k (f0 s) (f1 s) (f2 s) (f3 s) (f4 s) (nI i) (rep s) = o) (hi : ∀ i s s', i < e → inv i s → F i s = .inl s' → inv (i + 1) s') (hx : ∀ k s, inv e s → B k (f0 s) (f1 s) (f2 s) (f3 s) (f4 s) (nI e) (rep s) = fin s) :
    ∀ (m i : Nat) (s : σ) (n : Nat), i + m = e → m < n → inv i s → loop7 B n (f0 s) (f1 s) (f2 s) (f3 s) (f4 s) (nI i) (rep s) = itx F fin i m s
  | 0, i, s, n + 1, hm, _, h => by
    have : i = e := by omega
    subst this
    exact hx _ s h
  | m + 1, i, s, n + 1, hm, hn, h => by
    show B (loop7 B n) (f0 s) (f1 s) (f2 s) (f3 s) (f4 s) (nI i) (rep s) = _
    unfold itx
    match hF : F i s with
    | .inl s' =>
      rw [hs _ i s s' (by omega) h hF]
      exact fox7 f0 f1 f2 f3 f4 rep B e F fin inv hs hr hi hx m (i + 1) s' n (by omega) (by omega) (hi i s s' (by omega) h hF)
    | .inr o => exact hr _ i s o (by omega) h hF
/-! bits (the first rows begin as the kit's to-paste family) -/
def bt (x : Int32) (i : Nat) : Bool := x.toBitVec.getLsbD i
theorem b_ext {x y : Int32} (h : ∀ i, i < 32 → bt x i = bt y i) : x = y := Int32.toBitVec_inj.mp (BitVec.eq_of_getLsbD_eq (fun i hi => h i hi))
theorem b_or (x y : Int32) (i : Nat) : bt (x ||| y) i = (bt x i || bt y i) := by unfold bt; rw [Int32.toBitVec_or, BitVec.getLsbD_or]
theorem b_and (x y : Int32) (i : Nat) : bt (x &&& y) i = (bt x i && bt y i) := by unfold bt; rw [Int32.toBitVec_and, BitVec.getLsbD_and]
theorem b_xor (x y : Int32) (i : Nat) : bt (x ^^^ y) i = (bt x i ^^ bt y i) := by unfold bt; rw [Int32.toBitVec_xor, BitVec.getLsbD_xor]
theorem b_m1 : ∀ i, i < 32 → bt (-1) i = true := by decide +kernel
theorem b_0 (i : Nat) : bt 0 i = false := BitVec.getLsbD_zero
theorem b_1 : ∀ i, i < 32 → bt 1 i = decide (i = 0) := by decide +kernel
theorem b_big {x : Int32} {i : Nat} (h : 32 ≤ i) : bt x i = false := BitVec.getLsbD_of_ge _ _ h
theorem s_l : ∀ n, n < 32 → ((nI n &&& 31).toBitVec.smod 32).toNat = n := by decide +kernel
theorem b_shl (n : Nat) (hn : n < 32) (x : Int32) {i : Nat} (hi : i < 32) : bt (x <<< (nI n &&& 31)) i = (decide (n ≤ i) && bt x (i - n)) := by
  unfold bt
  rw [Int32.toBitVec_shiftLeft]
  show (x.toBitVec <<< ((nI n &&& 31).toBitVec.smod 32).toNat).getLsbD i = _
  rw [s_l n hn, BitVec.getLsbD_shiftLeft]
  rcases Nat.lt_or_ge i n with h | h
  · simp [h, Nat.not_le.mpr h]
  · simp [hi, h, Nat.not_lt.mpr h]
theorem b_sshr (n : Nat) (hn : n < 32) (x : Int32) {i : Nat} (hi : i < 32) : bt (x >>> (nI n &&& 31)) i = if n + i < 32 then bt x (n + i) else bt x 31 := by
  unfold bt
  rw [Int32.toBitVec_shiftRight]
  show (x.toBitVec.sshiftRight ((nI n &&& 31).toBitVec.smod 32).toNat).getLsbD i = _
  rw [s_l n hn, BitVec.getLsbD_sshiftRight, BitVec.msb_eq_getLsbD_last]
  simp [hi]
theorem b_one (n : Nat) (hn : n < 32) {i : Nat} (hi : i < 32) : bt ((1 : Int32) <<< (nI n &&& 31)) i = decide (i = n) := by
  rw [b_shl n hn _ hi]
  by_cases h : n ≤ i
  · rw [b_1 _ (by omega)]
    by_cases h2 : i = n
    · subst h2; simp
    · have : i - n ≠ 0 := by omega
      simp [h2, this]
  · have : i ≠ n := by omega
    simp [h, this]
def zb (c : Bool) : Int32 := if c = true then 1 else 0
theorem zb_0 (c : Bool) : (zb c = 0) = (c = false) := by cases c <;> simp [zb]
theorem zb_1 (c : Bool) : (zb c = 1) = (c = true) := by cases c <;> simp [zb]
theorem cc_or (c : Bool) : (c = false ∨ c = true) = True := by cases c <;> simp
theorem zb_or (c : Bool) : (zb c = 0 ∨ zb c = 1) = True := by cases c <;> simp [zb]
def bitB (m i : Int32) : Bool := decide ((m >>> (i &&& 31)) &&& 1 = 1)
theorem bit_bt (m : Int32) {i : Nat} (hi : i < 32) : bitB m (nI i) = bt m i := by
  have h0 : bt ((m >>> (nI i &&& 31)) &&& 1) 0 = bt m i := by
    rw [b_and, b_sshr i hi m (by omega), b_1 0 (by omega)]
    simp [hi]
  have hz : ∀ j, 0 < j → j < 32 → bt ((m >>> (nI i &&& 31)) &&& 1) j = false := by
    intro j h1 h2
    rw [b_and, b_1 j h2]
    have : j ≠ 0 := by omega
    simp [this]
  unfold bitB
  cases hb : bt m i with
  | true =>
    apply decide_eq_true
    apply b_ext
    intro j hj
    by_cases h : j = 0
    · subst h; rw [h0, hb, b_1 0 (by omega)]; rfl
    · rw [hz j (by omega) hj, b_1 j hj]; simp [h]
  | false =>
    apply decide_eq_false
    intro h
    rw [h, b_1 0 (by omega)] at h0
    rw [hb] at h0
    simp at h0
def inR (x a b : Int32) : Bool := decide (a ≤ x) && decide (x ≤ b)
theorem nI9 : (9 : Int32) = nI 9 := rfl
theorem nI5 : (5 : Int32) = nI 5 := rfl
theorem i0 : (0 : Int32) = nI 0 := rfl
theorem le_9 {i : Nat} (h : i < 9) : ¬ (9 : Int32) ≤ nI i := nI_ge h (by decide)
theorem le_5 {i : Nat} (h : i < 5) : ¬ (5 : Int32) ≤ nI i := nI_ge h (by decide)
theorem inR_nI {x : Int32} {n : Nat} (hn : n < 2 ^ 31) (h : inR x 0 (nI n) = true) : ∃ i : Nat, i ≤ n ∧ x = nI i := by
  unfold inR at h
  rw [Bool.and_eq_true, decide_eq_true_eq, decide_eq_true_eq] at h
  obtain ⟨i, h1, h2⟩ := nI_of (x := x) (Int32.not_lt.mpr h.1)
  subst h2
  exact ⟨i, (nI_leI h1 hn).mp h.2, rfl⟩
theorem inR_of {i n : Nat} (h : i ≤ n) (hn : n < 2 ^ 31) : inR (nI i) 0 (nI n) = true := by
  unfold inR
  rw [decide_eq_true (nI_pos' (by omega)), decide_eq_true (nI_le h hn)]
  rfl
