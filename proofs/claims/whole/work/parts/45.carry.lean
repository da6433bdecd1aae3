/-! PURE: what is thought is kept, and put back -/
theorem nI_3 (b k : Nat) : (3 + 5 * b + k) + 1 = 3 + 5 * b + (k + 1) := rfl
/-- one beast's numbers, carried into the row r -/
def tkB (r b : Nat) (σ : aR) : aR := rint (rset (rset (rset (rset (rset σ r (3 + 5 * b) (σ.2.1 51 b)) r (3 + 5 * b + 1) (σ.2.1 52 b)) r (3 + 5 * b + 2) (σ.2.1 53 b)) r (3 + 5 * b + 3) (σ.2.1 54 b)) r (3 + 5 * b + 4) (σ.2.1 55 b)) 30 (nI (3 + 5 * (b + 1)))
def tkP (r p : Nat) (σ : aR) : aR := rint (rset (rset (rset (rset σ r (48 + 4 * p) (σ.2.1 56 p)) r (48 + 4 * p + 1) (σ.2.1 57 p)) r (48 + 4 * p + 2) (σ.2.1 58 p)) r (48 + 4 * p + 3) (σ.2.1 59 p)) 30 (nI (48 + 4 * (p + 1)))
def tk0 (r : Nat) (σ : aR) : aR := rint (rset (rset (rset (rint (rint (rkin σ r) 31 1) 30 (nI 0)) r 0 (σ.1 0)) r 1 (σ.1 6)) r 2 (σ.1 11)) 30 (nI 3)
theorem kin_ne {r : Nat} (hr : kin r) : r ≠ 51 ∧ r ≠ 52 ∧ r ≠ 53 ∧ r ≠ 54 ∧ r ≠ 55 ∧ r ≠ 56 ∧ r ≠ 57 ∧ r ≠ 58 ∧ r ≠ 59 := by
  rcases hr with rfl | rfl <;> decide
theorem rset_keep {σ : aR} {c i : Nat} {x : Int32} {c' : Nat} (h : c' ≠ c) : (rset σ c i x).2.1 c' = σ.2.1 c' := by
  funext z
  rw [rset_21]
  simp [h]
theorem rset_back (σ : aR) {c i : Nat} {x : Int32} (h : σ.2.1 c i = x) : rset σ c i x = σ := by
  subst h
  exact rset_self σ c i
theorem rint_back (σ : aR) {a : Nat} {x : Int32} (h : σ.1 a = x) : rint σ a x = σ := by
  subst h
  exact rint_self σ a
theorem rint_rint (σ : aR) (a : Nat) (x x' : Int32) : rint (rint σ a x) a x' = rint σ a x' := by
  unfold rint
  have : (fun z => if z = a then x' else if z = a then x else σ.1 z) = (fun z => if z = a then x' else σ.1 z) := by
    funext z
    by_cases h : z = a <;> simp [h]
  rw [show (fun z => if z = a then x' else ((fun z => if z = a then x else σ.1 z, σ.2) : aR).1 z) = (fun z => if z = a then x' else σ.1 z) from this]
theorem rset_rint (σ : aR) (c i a : Nat) (x y : Int32) : rset (rint σ a y) c i x = rint (rset σ c i x) a y := rfl
/-- carrying a value of a row that isn't the one carried into: it stays, the value comes behind -/
theorem take_one {r : Nat} (hr : kin r) (w : aW) (σ : aR) {n c b : Nat} {x : Int32} (hn : n < 68) (h1 : σ.1 31 = 1) (h2 : σ.2.2.2.2 = some r) (h3 : σ.1 30 = nI n) (hx : σ.2.1 c b = x) (hc : c ≠ r) (hs : ∀ (σ : aR) x, sA (putR w σ) c (nI b) x = some (putR w (rset σ c b x))) :
    bk (f_X4_carry 50 x (putR w σ)) (fun v w' => sA w' c (nI b) v) = some (putR w (rint (rset σ r n x) 30 (nI (n + 1)))) := by
  rw [carry_take hr w σ hn h1 h2 h3 x, bk_some, hs]
  congr 2
  refine rset_back _ ?_
  rw [rint_2, rset_keep hc]
  exact hx
theorem bk_bind {α β γ : Type} (x : Option (α × aW)) (g : α → aW → Option β) (h : β → Option γ) : bk x (fun a w => (g a w).bind h) = (bk x g).bind h := by
  unfold bk
  cases x <;> rfl
def nx (σ : aR) (r n c b : Nat) : aR := rint (rset σ r n (σ.2.1 c b)) 30 (nI (n + 1))
def nb (σ : aR) (r n c b : Nat) : aR := rset (rint σ 30 (nI (n + 1))) c b (σ.2.1 r n)
theorem stepT {β : Type} {r : Nat} (hr : kin r) (w : aW) (σ : aR) {n c b : Nat} {g : aW → Option β} (hn : n < 68) (h1 : σ.1 31 = 1) (h2 : σ.2.2.2.2 = some r) (h3 : σ.1 30 = nI n) (hc : c ≠ r) (hga : ∀ σ : aR, gA (putR w σ) c (nI b) = some (σ.2.1 c b)) (hsa : ∀ (σ : aR) x, sA (putR w σ) c (nI b) x = some (putR w (rset σ c b x))) :
    ((gA (putR w σ) c (nI b)).bind fun x => cV 3 (putR w σ) 50 (bk (f_X4_carry 50 x (putR w σ)) fun v w' => (sA w' c (nI b) v).bind g)) = g (putR w (nx σ r n c b)) := by
  rw [hga, bind_some', cV_R, bk_bind, take_one hr w σ hn h1 h2 h3 rfl hc hsa, bind_some']
  rfl
theorem stepB {β : Type} {r : Nat} (hr : kin r) (w : aW) (σ : aR) {n c b : Nat} {g : aW → Option β} (hn : n < 68) (h1 : σ.1 31 = 0) (h2 : σ.2.2.2.2 = some r) (h3 : σ.1 30 = nI n) (hga : ∀ σ : aR, gA (putR w σ) c (nI b) = some (σ.2.1 c b)) (hsa : ∀ (σ : aR) x, sA (putR w σ) c (nI b) x = some (putR w (rset σ c b x))) :
    ((gA (putR w σ) c (nI b)).bind fun x => cV 3 (putR w σ) 50 (bk (f_X4_carry 50 x (putR w σ)) fun v w' => (sA w' c (nI b) v).bind g)) = g (putR w (nb σ r n c b)) := by
  rw [hga, bind_some', cV_R, carry_back hr w σ hn h1 h2 h3, bk_some, hsa, bind_some']
  rfl
theorem for2e {σ β : Type} (rep : σ → aW) (B : (Int32 → aW → Option β) → Int32 → aW → Option β) (e : Nat) (X : σ → Option β) (inv : Nat → σ → Prop)
    (hs : ∀ k i s, i < e → inv i s → ∃ s', inv (i + 1) s' ∧ B k (nI i) (rep s) = k (nI (i + 1)) (rep s')) (hx : ∀ k s, inv e s → B k (nI e) (rep s) = X s) :
    ∀ (m i : Nat) (s : σ) (n : Nat), i + m = e → m < n → inv i s → ∃ s', inv e s' ∧ loop2 B n (nI i) (rep s) = X s'
  | 0, i, s, n + 1, hm, _, h => by
    have : i = e := by omega
    subst this
    exact ⟨s, h, hx _ s h⟩
  | m + 1, i, s, n + 1, hm, hn, h => by
    obtain ⟨s', h', e'⟩ := hs (loop2 B n) i s (by omega) h
    obtain ⟨s2, h2, e2⟩ := for2e rep B e X inv hs hx m (i + 1) s' n (by omega) (by omega) h'
    exact ⟨s2, h2, by rw [← e2, ← e']; rfl⟩
/-- what stays while a row is carried: all rows but r, all scalars but two, the rows of longs -/
def Rk (r : Nat) (σ σ' : aR) : Prop := (∀ c, c ≠ r → σ'.2.1 c = σ.2.1 c) ∧ (∀ z, z ≠ 30 → z ≠ 31 → σ'.1 z = σ.1 z) ∧ σ'.2.2.1 = σ.2.2.1
theorem Rk.ofnx {r : Nat} {σ σ' : aR} (h : Rk r σ σ') (n c b : Nat) : Rk r σ (nx σ' r n c b) := by
  refine ⟨fun c' hc' => ?_, fun z h1 h2 => ?_, h.2.2⟩
  · unfold nx
    rw [rint_2, rset_keep hc']
    exact h.1 c' hc'
  · unfold nx
    rw [rint_1, if_neg h1, rset_1]
    exact h.2.1 z h1 h2
theorem nx_r {σ : aR} {r n c b i : Nat} : (nx σ r n c b).2.1 r i = if i = n then σ.2.1 c b else σ.2.1 r i := by
  unfold nx
  rw [rint_2, rset_21]
  simp
theorem nx_30 {σ : aR} {r n c b : Nat} : (nx σ r n c b).1 30 = nI (n + 1) := by
  unfold nx
  rw [rint_1]
  simp
theorem nx_31 {σ : aR} {r n c b : Nat} : (nx σ r n c b).1 31 = σ.1 31 := by
  unfold nx
  rw [rint_1, rset_1]
  simp
theorem nx_k {σ : aR} {r n c b : Nat} : (nx σ r n c b).2.2.2.2 = σ.2.2.2.2 := rfl
/-- the state while taking: the place, the row; what has come -/
def TkI (r : Nat) (σ0 : aR) (n : Nat) (σ : aR) : Prop := Rk r σ0 σ ∧ σ.1 31 = 1 ∧ σ.2.2.2.2 = some r ∧ σ.1 30 = nI n
def hasB (r : Nat) (σ0 : aR) (i : Nat) (σ : aR) : Prop := σ.2.1 r 0 = σ0.1 0 ∧ σ.2.1 r 1 = σ0.1 6 ∧ σ.2.1 r 2 = σ0.1 11 ∧ ∀ b, b < i → ∀ k, k < 5 → σ.2.1 r (3 + 5 * b + k) = σ0.2.1 (51 + k) b
def hasP (r : Nat) (σ0 : aR) (i : Nat) (σ : aR) : Prop := ∀ p, p < i → ∀ k, k < 4 → σ.2.1 r (48 + 4 * p + k) = σ0.2.1 (56 + k) p
theorem TkI.go {r : Nat} {σ0 σ : aR} {n : Nat} (h : TkI r σ0 n σ) (c b : Nat) : TkI r σ0 (n + 1) (nx σ r n c b) := ⟨h.1.ofnx n c b, nx_31.trans h.2.1, h.2.2.1, nx_30⟩
theorem carryT_P {r : Nat} (hr : kin r) (w : aW) (σ0 : aR) (a2 : Int32) {σ : aR} (h : TkI r σ0 48 σ) (hb : hasB r σ0 9 σ) : ∃ σ', TkI r σ0 68 σ' ∧ hasB r σ0 9 σ' ∧ hasP r σ0 5 σ' ∧ loop2 (c_X4_carryAll_147 50 r a2) a_fuel (nI 0) (putR w σ) = some ((), putR w σ') := by
  obtain ⟨n1, n2, n3, n4, n5, n6, n7, n8, n9⟩ := kin_ne hr
  obtain ⟨σ', ⟨h1, h2, h3⟩, e⟩ := for2e (fun σ : aR => putR w σ) (c_X4_carryAll_147 50 r a2) 5 (fun σ => some ((), putR w σ)) (fun i σ => TkI r σ0 (48 + 4 * i) σ ∧ hasB r σ0 9 σ ∧ hasP r σ0 i σ)
    (fun k i σ hi hσ => by
      obtain ⟨hT, hB, hP⟩ := hσ
      have hT1 := hT.go 56 i
      have hT2 := hT1.go 57 i
      have hT3 := hT2.go 58 i
      have hT4 := hT3.go 59 i
      refine ⟨_, ⟨by rw [show 48 + 4 * (i + 1) = 48 + 4 * i + 1 + 1 + 1 + 1 by omega]; exact hT4, ?_, ?_⟩, ?_⟩
      · refine ⟨?_, ?_, ?_, fun b hb k hk => ?_⟩
        · simp only [nx_r]
          rw [if_neg (by omega), if_neg (by omega), if_neg (by omega), if_neg (by omega)]
          exact hB.1
        · simp only [nx_r]
          rw [if_neg (by omega), if_neg (by omega), if_neg (by omega), if_neg (by omega)]
          exact hB.2.1
        · simp only [nx_r]
          rw [if_neg (by omega), if_neg (by omega), if_neg (by omega), if_neg (by omega)]
          exact hB.2.2.1
        · simp only [nx_r]
          rw [if_neg (by omega), if_neg (by omega), if_neg (by omega), if_neg (by omega)]
          exact hB.2.2.2 b hb k hk
      · intro p hp k hk
        simp only [nx_r]
        by_cases hpi : p = i
        · subst hpi
          rw [hT3.1.1 59 n9.symm, hT2.1.1 58 n8.symm, hT1.1.1 57 n7.symm, hT.1.1 56 n6.symm]
          rcases (show k = 0 ∨ k = 1 ∨ k = 2 ∨ k = 3 by omega) with rfl | rfl | rfl | rfl
          · rw [if_neg (by omega), if_neg (by omega), if_neg (by omega), if_pos (by omega)]
          · rw [if_neg (by omega), if_neg (by omega), if_pos (by omega)]
          · rw [if_neg (by omega), if_pos (by omega)]
          · rw [if_pos (by omega)]
        · rw [if_neg (by omega), if_neg (by omega), if_neg (by omega), if_neg (by omega)]
          exact hP p (by omega) k hk
      · simp only [c_X4_carryAll_147, le_5 hi, gR_R7, gR_R8, gR_R9, gR_R10, bind_some', if_false]
        rw [stepT hr w σ (show 48 + 4 * i < 68 by omega) hT.2.1 hT.2.2.1 hT.2.2.2 n6.symm (fun σ => gA_R56 w σ hi) (fun σ x => sA_R56 w σ hi x)]
        simp only [gR_R7, gR_R8, gR_R9, gR_R10, bind_some']
        rw [stepT hr w _ (show 48 + 4 * i + 1 < 68 by omega) hT1.2.1 hT1.2.2.1 hT1.2.2.2 n7.symm (fun σ => gA_R57 w σ hi) (fun σ x => sA_R57 w σ hi x)]
        simp only [gR_R7, gR_R8, gR_R9, gR_R10, bind_some']
        rw [stepT hr w _ (show 48 + 4 * i + 1 + 1 < 68 by omega) hT2.2.1 hT2.2.2.1 hT2.2.2.2 n8.symm (fun σ => gA_R58 w σ hi) (fun σ x => sA_R58 w σ hi x)]
        simp only [gR_R7, gR_R8, gR_R9, gR_R10, bind_some']
        rw [stepT hr w _ (show 48 + 4 * i + 1 + 1 + 1 < 68 by omega) hT3.2.1 hT3.2.2.1 hT3.2.2.2 n9.symm (fun σ => gA_R59 w σ hi) (fun σ x => sA_R59 w σ hi x), nI_1])
    (fun k σ _ => by simp only [c_X4_carryAll_147]; rfl) 5 0 σ a_fuel rfl (by decide) ⟨h, hb, fun p hp => by omega⟩
  exact ⟨σ', h1, h2, h3, e⟩
theorem carryT_B {r : Nat} (hr : kin r) (w : aW) (σ0 : aR) (a2 : Int32) {σ : aR} (h : TkI r σ0 3 σ) (hb : hasB r σ0 0 σ) : ∃ σ', TkI r σ0 68 σ' ∧ hasB r σ0 9 σ' ∧ hasP r σ0 5 σ' ∧ loop2 (c_X4_carryAll_53 50 r a2) a_fuel (nI 0) (putR w σ) = some ((), putR w σ') := by
  obtain ⟨n1, n2, n3, n4, n5, n6, n7, n8, n9⟩ := kin_ne hr
  obtain ⟨σ', ⟨h1, h2⟩, e⟩ := for2e (fun σ : aR => putR w σ) (c_X4_carryAll_53 50 r a2) 9 (fun σ => loop2 (c_X4_carryAll_147 50 r a2) a_fuel (nI 0) (putR w σ)) (fun i σ => TkI r σ0 (3 + 5 * i) σ ∧ hasB r σ0 i σ)
    (fun k i σ hi hσ => by
      obtain ⟨hT, hB⟩ := hσ
      have hT1 := hT.go 51 i
      have hT2 := hT1.go 52 i
      have hT3 := hT2.go 53 i
      have hT4 := hT3.go 54 i
      have hT5 := hT4.go 55 i
      refine ⟨_, ⟨by rw [show 3 + 5 * (i + 1) = 3 + 5 * i + 1 + 1 + 1 + 1 + 1 by omega]; exact hT5, ?_⟩, ?_⟩
      · refine ⟨?_, ?_, ?_, fun b hb k hk => ?_⟩
        · simp only [nx_r]
          rw [if_neg (by omega), if_neg (by omega), if_neg (by omega), if_neg (by omega), if_neg (by omega)]
          exact hB.1
        · simp only [nx_r]
          rw [if_neg (by omega), if_neg (by omega), if_neg (by omega), if_neg (by omega), if_neg (by omega)]
          exact hB.2.1
        · simp only [nx_r]
          rw [if_neg (by omega), if_neg (by omega), if_neg (by omega), if_neg (by omega), if_neg (by omega)]
          exact hB.2.2.1
        · simp only [nx_r]
          by_cases hpi : b = i
          · subst hpi
            rw [hT4.1.1 55 n5.symm, hT3.1.1 54 n4.symm, hT2.1.1 53 n3.symm, hT1.1.1 52 n2.symm, hT.1.1 51 n1.symm]
            rcases (show k = 0 ∨ k = 1 ∨ k = 2 ∨ k = 3 ∨ k = 4 by omega) with rfl | rfl | rfl | rfl | rfl
            · rw [if_neg (by omega), if_neg (by omega), if_neg (by omega), if_neg (by omega), if_pos (by omega)]
            · rw [if_neg (by omega), if_neg (by omega), if_neg (by omega), if_pos (by omega)]
            · rw [if_neg (by omega), if_neg (by omega), if_pos (by omega)]
            · rw [if_neg (by omega), if_pos (by omega)]
            · rw [if_pos (by omega)]
          · rw [if_neg (by omega), if_neg (by omega), if_neg (by omega), if_neg (by omega), if_neg (by omega)]
            exact hB.2.2.2 b (by omega) k hk
      · simp only [c_X4_carryAll_53, le_9 hi, gR_R1, gR_R2, gR_R3, gR_R4, gR_R5, bind_some', if_false]
        rw [stepT hr w σ (show 3 + 5 * i < 68 by omega) hT.2.1 hT.2.2.1 hT.2.2.2 n1.symm (fun σ => gA_R51 w σ hi) (fun σ x => sA_R51 w σ hi x)]
        simp only [gR_R1, gR_R2, gR_R3, gR_R4, gR_R5, bind_some']
        rw [stepT hr w _ (show 3 + 5 * i + 1 < 68 by omega) hT1.2.1 hT1.2.2.1 hT1.2.2.2 n2.symm (fun σ => gA_R52 w σ hi) (fun σ x => sA_R52 w σ hi x)]
        simp only [gR_R1, gR_R2, gR_R3, gR_R4, gR_R5, bind_some']
        rw [stepT hr w _ (show 3 + 5 * i + 1 + 1 < 68 by omega) hT2.2.1 hT2.2.2.1 hT2.2.2.2 n3.symm (fun σ => gA_R53 w σ hi) (fun σ x => sA_R53 w σ hi x)]
        simp only [gR_R1, gR_R2, gR_R3, gR_R4, gR_R5, bind_some']
        rw [stepT hr w _ (show 3 + 5 * i + 1 + 1 + 1 < 68 by omega) hT3.2.1 hT3.2.2.1 hT3.2.2.2 n4.symm (fun σ => gA_R54 w σ hi) (fun σ x => sA_R54 w σ hi x)]
        simp only [gR_R1, gR_R2, gR_R3, gR_R4, gR_R5, bind_some']
        rw [stepT hr w _ (show 3 + 5 * i + 1 + 1 + 1 + 1 < 68 by omega) hT4.2.1 hT4.2.2.1 hT4.2.2.2 n5.symm (fun σ => gA_R55 w σ hi) (fun σ x => sA_R55 w σ hi x), nI_1])
    (fun k σ _ => by simp only [c_X4_carryAll_53]; rfl) 9 0 σ a_fuel rfl (by decide) ⟨h, hb⟩
  obtain ⟨σ2, g1, g2, g3, e2⟩ := carryT_P hr w σ0 a2 h1 h2
  exact ⟨σ2, g1, g2, g3, by rw [e]; exact e2⟩
theorem carryAll_take {r : Nat} (hr : kin r) (w : aW) (σ : aR) : ∃ σ', Rk r σ σ' ∧ hasB r σ 9 σ' ∧ hasP r σ 5 σ' ∧ f_X4_carryAll 50 r 1 (putR w σ) = some ((), putR w σ') := by
  have hk0 : TkI r σ 0 (rint (rint (rkin σ r) 31 1) 30 (nI 0)) := ⟨⟨fun _ _ => rfl, fun z h1 h2 => by rw [rint_1, if_neg h1, rint_1, if_neg h2]; rfl, rfl⟩, by rw [rint_1, if_neg (by decide), rint_1, if_pos rfl], rfl, by rw [rint_1, if_pos rfl]⟩
  have tk : ∀ (n : Nat) (τ : aR) (x : Int32), TkI r σ n τ → TkI r σ (n + 1) (rint (rset τ r n x) 30 (nI (n + 1))) := fun n τ x h => ⟨⟨fun c hc => by rw [rint_2, rset_keep hc]; exact h.1.1 c hc, fun z h1 h2 => by rw [rint_1, if_neg h1, rset_1]; exact h.1.2.1 z h1 h2, h.1.2.2⟩, by rw [rint_1, if_neg (by decide), rset_1]; exact h.2.1, h.2.2.1, by rw [rint_1, if_pos rfl]⟩
  have hk1 := tk 0 _ (σ.1 0) hk0
  have hk2 := tk 1 _ (σ.1 6) hk1
  have hk3 := tk 2 _ (σ.1 11) hk2
  have hB : hasB r σ 0 (rint (rset (rint (rset (rint (rset (rint (rint (rkin σ r) 31 1) 30 (nI 0)) r 0 (σ.1 0)) 30 (nI (0 + 1))) r 1 (σ.1 6)) 30 (nI (1 + 1))) r 2 (σ.1 11)) 30 (nI (2 + 1))) := by
    refine ⟨?_, ?_, ?_, fun b hb => by omega⟩ <;> simp only [rint_2, rset_21] <;> simp
  obtain ⟨σ', g1, g2, g3, e⟩ := carryT_B hr w σ 1 hk3 hB
  refine ⟨σ', g1.1, g2, g3, ?_⟩
  have s1 : ∀ (n : Nat) (τ : aR) (c : Nat), TkI r σ n τ → c ≠ 30 → c ≠ 31 → c < 37 → rint (rint (rset τ r n (σ.1 c)) 30 (nI (n + 1))) c (σ.1 c) = rint (rset τ r n (σ.1 c)) 30 (nI (n + 1)) := fun n τ c h h1 h2 _ => rint_back _ ((tk n τ (σ.1 c) h).1.2.1 c h1 h2)
  unfold f_X4_carryAll
  rw [sF_R32, bind_some', if_neg (by decide), sF_R31, bind_some', sF_R30, bind_some', gI_R0, bind_some', cV_R]
  have a0 : (rint (rint (rkin σ r) 31 1) 30 0).1 0 = σ.1 0 := rfl
  rw [show (rint (rint (rkin σ r) 31 1) 30 (0 : Int32)) = rint (rint (rkin σ r) 31 1) 30 (nI 0) from rfl, show (rint (rint (rkin σ r) 31 1) 30 (nI 0)).1 0 = σ.1 0 from rfl]
  rw [carry_take hr w _ (show 0 < 68 by decide) hk0.2.1 hk0.2.2.1 hk0.2.2.2, bk_some, sF_R0, bind_some', s1 0 _ 0 hk0 (by decide) (by decide) (by decide), gI_R6, bind_some', cV_R, show (rint (rset (rint (rint (rkin σ r) 31 1) 30 (nI 0)) r 0 (σ.1 0)) 30 (nI (0 + 1))).1 6 = σ.1 6 from rfl]
  rw [carry_take hr w _ (show 1 < 68 by decide) hk1.2.1 hk1.2.2.1 hk1.2.2.2, bk_some, sF_R6, bind_some', s1 1 _ 6 hk1 (by decide) (by decide) (by decide), gI_R11, bind_some', cV_R, show (rint (rset (rint (rset (rint (rint (rkin σ r) 31 1) 30 (nI 0)) r 0 (σ.1 0)) 30 (nI (0 + 1))) r 1 (σ.1 6)) 30 (nI (1 + 1))).1 11 = σ.1 11 from rfl]
  rw [carry_take hr w _ (show 2 < 68 by decide) hk2.2.1 hk2.2.2.1 hk2.2.2.2, bk_some, sF_R11, bind_some', s1 2 _ 11 hk2 (by decide) (by decide) (by decide)]
  exact e
