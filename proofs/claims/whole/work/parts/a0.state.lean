/-! The coupled state (X the object, Y the model), and one step of each operation on both sides -/
def Wd (w : aW) (X : aX) (Y : aY) : aW := putY (putX w X) X.1 Y
def Inv (X : aX) (Y : aY) : Prop := WF X.1 ∧ CA X.1 ∧ Y.1 0 = 0 ∧ Cp X.2.2.2.2.1 Y ∧ X.2.2.2.1 = Y.1 6 ∧ (¬ Y.1 6 = 0 → Kept Y 9 X.2.2.1 ∧ WF X.2.2.1 ∧ CA X.2.2.1)
theorem putY_off (w : aW) (κ : aK) (y : aY) {i : Nat} (h : i < 50 ∨ 73 < i) : putY w κ y i = w i := by
  unfold putY
  split <;> first | omega | rfl
theorem putY_on (w w' : aW) (κ : aK) (y : aY) {i : Nat} (h : 50 ≤ i) (h2 : i ≤ 73) : putY w κ y i = putY w' κ y i := by
  rcases (show i = 50 ∨ i = 51 ∨ i = 52 ∨ i = 53 ∨ i = 54 ∨ i = 55 ∨ i = 56 ∨ i = 57 ∨ i = 58 ∨ i = 59 ∨ i = 60 ∨ i = 61 ∨ i = 62 ∨ i = 63 ∨ i = 64 ∨ i = 65 ∨ i = 66 ∨ i = 67 ∨ i = 68 ∨ i = 69 ∨ i = 70 ∨ i = 71 ∨ i = 72 ∨ i = 73 by omega) with rfl | rfl | rfl | rfl | rfl | rfl | rfl | rfl | rfl | rfl | rfl | rfl | rfl | rfl | rfl | rfl | rfl | rfl | rfl | rfl | rfl | rfl | rfl | rfl <;> rfl
theorem putX_off (w : aW) (X : aX) {i : Nat} (h : 50 ≤ i) : putX w X i = w i := by
  unfold putX
  rw [if_neg (by omega), if_neg (by omega), if_neg (by omega), if_neg (by omega), if_neg (by omega), if_neg (by omega), if_neg (by omega), if_neg (by omega)]
theorem putX_on (w w' : aW) (X : aX) {i : Nat} (h : i < 50) : putX w X i = putX w' X i := by
  unfold putX
  by_cases h0 : i = 0
  · rw [if_pos h0, if_pos h0]
  rw [if_neg h0, if_neg h0]
  by_cases h1 : i ≤ 10
  · rw [if_pos h1, if_pos h1]; exact putM_in w w' 1 X.1 (by omega) (by omega)
  rw [if_neg h1, if_neg h1]
  by_cases h2 : i ≤ 20
  · rw [if_pos h2, if_pos h2]; exact putM_in w w' 11 X.2.1 (by omega) (by omega)
  rw [if_neg h2, if_neg h2]
  by_cases h3 : i ≤ 30
  · rw [if_pos h3, if_pos h3]; exact putM_in w w' 21 X.2.2.1 (by omega) (by omega)
  rw [if_neg h3, if_neg h3]
  by_cases h4 : i = 31
  · rw [if_pos h4, if_pos h4]
  rw [if_neg h4, if_neg h4]
  by_cases h5 : i = 32
  · rw [if_pos h5, if_pos h5]
  rw [if_neg h5, if_neg h5]
  by_cases h6 : i = 33
  · rw [if_pos h6, if_pos h6]
  rw [if_neg h6, if_neg h6, if_pos (by omega), if_pos (by omega)]
  exact putS_in w w' _ _ (by omega)
theorem xy_comm (w : aW) (κ : aK) (X : aX) (Y : aY) : putX (putY w κ Y) X = putY (putX w X) κ Y := by
  funext i
  rcases Nat.lt_or_ge i 50 with h | h
  · rw [putY_off _ _ _ (Or.inl h)]; exact putX_on _ _ _ h
  · rw [putX_off _ _ h]
    rcases Nat.lt_or_ge 73 i with h2 | h2
    · rw [putY_off _ _ _ (Or.inr h2), putY_off _ _ _ (Or.inr h2), putX_off _ _ h]
    · exact putY_on _ _ _ _ h h2
def Step {τ : Type} (f3 f4 : aW → Option (τ × aW)) (w : aW) (X : aX) (Y : aY) : Prop := ∃ (r : τ) (w1 : aW) (X' : aX) (Y' : aY), a_isO 3 w1 50 ∧ f3 (Wd w X Y) = some (r, w1) ∧ f4 w1 = some (r, Wd w X' Y') ∧ Inv X' Y'
theorem Step.mk' {τ : Type} {f3 f4 : aW → Option (τ × aW)} {w : aW} {X : aX} {Y : aY} {r : τ} {X' : aX} {Y' : aY} (h3 : f3 (putX (putY w X.1 Y) X) = some (r, putX (putY w X.1 Y) X')) (h4 : f4 (putY (putX w X') X.1 Y) = some (r, putY (putX w X') X'.1 Y')) (hI : Inv X' Y') : Step f3 f4 w X Y :=
  ⟨r, putY (putX w X') X.1 Y, X', Y', ⟨by decide, _, rfl⟩, by unfold Wd; rw [← xy_comm, h3, xy_comm], h4, hI⟩
theorem Inv.yk {X : aX} {Y Y' : aY} (h : Inv X Y) (e : Yk Y Y') : Inv X Y' := by
  obtain ⟨h1, h2, h3, h4, h5, h6⟩ := h
  refine ⟨h1, h2, by rw [e.1.1]; exact h3, h4.yk e, by rw [e.1.2.1]; exact h5, fun h => ?_⟩
  rw [e.1.2.1] at h
  obtain ⟨h7, h8⟩ := h6 h
  unfold Kept at h7 ⊢
  rw [e.2]
  exact ⟨h7, h8⟩
theorem Inv.mind {X : aX} {Y : aY} (h : Inv X Y) (μ : aK) : Inv (xmind X μ) Y := h
theorem Inv.tw {X : aX} {Y : aY} (h : Inv X Y) (μ : aK) (f g : Nat → Int32) : Inv (xtw X μ f g) Y := h
theorem Inv.now {X : aX} {Y : aY} (h : Inv X Y) {κ : aK} (h1 : WF κ) (h2 : CA κ) : Inv (xnow X κ) Y := ⟨h1, h2, h.2.2⟩
theorem Inv.thr {X : aX} {Y : aY} (h : Inv X Y) (x : Int32) : Inv X (yint Y 1 x) := h.yk (Yk.thrown Y x)
theorem Inv.im {X : aX} {Y Y' : aY} (h : Inv X Y) (e : Yim Y Y') {σ : Nat → aS} (hC : Cp σ Y') : Inv (xsig X σ) Y' := by
  obtain ⟨h1, h2, h3, h4, h5, h6⟩ := h
  refine ⟨h1, h2, by rw [e.1]; exact h3, hC, by rw [e.2.1]; exact h5, fun h => ?_⟩
  rw [e.2.1] at h
  obtain ⟨h7, h8⟩ := h6 h
  refine ⟨?_, h8⟩
  unfold Kept at h7 ⊢
  rw [e.2.2]
  exact h7
theorem Inv.W {X : aX} {Y : aY} (h : Inv X Y) : WF X.1 := h.1
theorem Inv.C {X : aX} {Y : aY} (h : Inv X Y) : CA X.1 := h.2.1
theorem Inv.s {X : aX} {Y : aY} (h : Inv X Y) : Y.1 0 = 0 := h.2.2.1
theorem Inv.P {X : aX} {Y : aY} (h : Inv X Y) : Cp X.2.2.2.2.1 Y := h.2.2.2.1
theorem Inv.S {X : aX} {Y : aY} (h : Inv X Y) : ∀ d, d < 8 → WFs (X.2.2.2.2.1 d) := fun d hd => (h.P d hd).1
theorem st_beastThen {X : aX} {Y : aY} (hI : Inv X Y) (w : aW) (z1 z2 z3 : Int32) : Step (f_X3_beastThen 0 z1 z2 z3) (f_X4_beastThen 50 z1 z2 z3) w X Y := by
  obtain ⟨μ, h3⟩ := x_beastThen (putY w X.1 Y) (X := X) hI.W z1 z2 z3
  obtain ⟨Y', e, h4⟩ := m_beastThen (putX w (xmind X μ)) Y (κ := X.1) hI.W hI.s z1 z2 z3
  exact Step.mk' h3 h4 ((hI.mind μ).yk e)
theorem st_personThen {X : aX} {Y : aY} (hI : Inv X Y) (w : aW) (z1 z2 z3 : Int32) : Step (f_X3_personThen 0 z1 z2 z3) (f_X4_personThen 50 z1 z2 z3) w X Y := by
  obtain ⟨μ, h3⟩ := x_personThen (putY w X.1 Y) (X := X) hI.W z1 z2 z3
  obtain ⟨Y', e, h4⟩ := m_personThen (putX w (xmind X μ)) Y (κ := X.1) hI.W hI.s z1 z2 z3
  exact Step.mk' h3 h4 ((hI.mind μ).yk e)
theorem st_named {X : aX} {Y : aY} (hI : Inv X Y) (w : aW) (z1 z2 : Int32) : Step (f_X3_named 0 z1 z2) (f_X4_named 50 z1 z2) w X Y := by
  obtain ⟨μ, h3⟩ := x_named (putY w X.1 Y) (X := X) hI.W z1 z2
  obtain ⟨Y', e, h4⟩ := m_named (putX w (xmind X μ)) Y (κ := X.1) hI.W hI.s z1 z2
  exact Step.mk' h3 h4 ((hI.mind μ).yk e)
theorem st_dies {X : aX} {Y : aY} (hI : Inv X Y) (w : aW) (z1 : Int32) : Step (f_X3_dies 0 z1) (f_X4_dies 50 z1) w X Y := by
  obtain ⟨μ, h3⟩ := x_dies (putY w X.1 Y) (X := X) hI.W z1
  obtain ⟨Y', e, h4⟩ := m_dies (putX w (xmind X μ)) Y (κ := X.1) hI.W hI.s z1
  exact Step.mk' h3 h4 ((hI.mind μ).yk e)
theorem st_ruined {X : aX} {Y : aY} (hI : Inv X Y) (w : aW) (z1 : Int32) : Step (f_X3_ruined 0 z1) (f_X4_ruined 50 z1) w X Y := by
  obtain ⟨μ, h3⟩ := x_ruined (putY w X.1 Y) (X := X) hI.W z1
  obtain ⟨Y', e, h4⟩ := m_ruined (putX w (xmind X μ)) Y (κ := X.1) hI.W hI.s z1
  exact Step.mk' h3 h4 ((hI.mind μ).yk e)
theorem st_still {X : aX} {Y : aY} (hI : Inv X Y) (w : aW) : Step (f_X3_still 0) (f_X4_still 50) w X Y := by
  obtain ⟨μ, h3⟩ := x_still (putY w X.1 Y) (X := X) hI.W
  obtain ⟨Y', e, h4⟩ := m_still (putX w (xmind X μ)) Y (κ := X.1) hI.W hI.s
  exact Step.mk' h3 h4 ((hI.mind μ).yk e)
theorem st_next {X : aX} {Y : aY} (hI : Inv X Y) (w : aW) (z1 : Int32) : Step (f_X3_next 0 z1) (f_X4_next 50 z1) w X Y := by
  obtain ⟨μ, h3⟩ := x_next (putY w X.1 Y) (X := X) hI.W z1
  obtain ⟨Y', e, h4⟩ := m_next (putX w (xmind X μ)) Y (κ := X.1) hI.W hI.s z1
  exact Step.mk' h3 h4 ((hI.mind μ).yk e)
theorem st_name {X : aX} {Y : aY} (hI : Inv X Y) (w : aW) (z1 z2 z3 : Int32) : Step (f_X3_name 0 z1 z2 z3) (f_X4_name 50 z1 z2 z3) w X Y := by
  obtain ⟨μ, h3⟩ := x_name (putY w X.1 Y) (X := X) hI.W z1 z2 z3
  obtain ⟨Y', e, h4⟩ := m_name (putX w (xmind X μ)) Y (κ := X.1) hI.W hI.s z1 z2 z3
  exact Step.mk' h3 h4 ((hI.mind μ).yk e)
theorem st_cover {X : aX} {Y : aY} (hI : Inv X Y) (w : aW) (z1 z2 : Int32) : Step (f_X3_cover 0 z1 z2) (f_X4_cover 50 z1 z2) w X Y := by
  obtain ⟨μ, h3⟩ := x_cover (putY w X.1 Y) (X := X) hI.W z1 z2
  obtain ⟨Y', e, h4⟩ := m_cover (putX w (xmind X μ)) Y (κ := X.1) hI.W hI.C hI.s z1 z2
  exact Step.mk' h3 h4 ((hI.mind μ).yk e)
theorem st_letGo {X : aX} {Y : aY} (hI : Inv X Y) (w : aW) (z1 z2 : Int32) : Step (f_X3_letGo 0 z1 z2) (f_X4_letGo 50 z1 z2) w X Y := by
  obtain ⟨μ, h3⟩ := x_letGo (putY w X.1 Y) (X := X) hI.W z1 z2
  obtain ⟨Y', e, h4⟩ := m_letGo (putX w (xmind X μ)) Y (κ := X.1) hI.W hI.C hI.s z1 z2
  exact Step.mk' h3 h4 ((hI.mind μ).yk e)
theorem st_stand {X : aX} {Y : aY} (hI : Inv X Y) (w : aW) (z1 z2 z3 : Int32) : Step (f_X3_stand 0 z1 z2 z3) (f_X4_stand 50 z1 z2 z3) w X Y := by
  obtain ⟨μ, h3⟩ := x_stand (putY w X.1 Y) (X := X) hI.W z1 z2 z3
  obtain ⟨Y', e, h4⟩ := m_stand (putX w (xmind X μ)) Y (κ := X.1) hI.W hI.s z1 z2 z3
  exact Step.mk' h3 h4 ((hI.mind μ).yk e)
theorem st_least {X : aX} {Y : aY} (hI : Inv X Y) (w : aW) (z1 z2 : Int32) : Step (f_X3_least 0 z1 z2) (f_X4_least 50 z1 z2) w X Y := by
  obtain ⟨μ, h3⟩ := x_least (putY w X.1 Y) (X := X) hI.W z1 z2
  obtain ⟨Y', e, h4⟩ := m_least (putX w (xmind X μ)) Y (κ := X.1) hI.W hI.C hI.s z1 z2
  exact Step.mk' h3 h4 ((hI.mind μ).yk e)
theorem st_exchange {X : aX} {Y : aY} (hI : Inv X Y) (w : aW) (z1 : Int32) : Step (f_X3_exchange 0 z1) (f_X4_exchange 50 z1) w X Y := by
  obtain ⟨μ, h3⟩ := x_exchange (putY w X.1 Y) (X := X) hI.W z1
  obtain ⟨Y', e, h4⟩ := m_exchange (putX w (xmind X μ)) Y (κ := X.1) hI.W hI.s z1
  exact Step.mk' h3 h4 ((hI.mind μ).yk e)
theorem st_teach {X : aX} {Y : aY} (hI : Inv X Y) (w : aW) (z1 z2 z3 : Int32) : Step (f_X3_teach 0 z1 z2 z3) (f_X4_teach 50 z1 z2 z3) w X Y := by
  obtain ⟨μ, h3⟩ := x_teach (putY w X.1 Y) (X := X) hI.W z1 z2 z3
  obtain ⟨Y', e, h4⟩ := m_teach (putX w (xmind X μ)) Y (κ := X.1) hI.W hI.s z1 z2 z3
  exact Step.mk' h3 h4 ((hI.mind μ).yk e)
theorem st_snow {X : aX} {Y : aY} (hI : Inv X Y) (w : aW) (z1 z2 z3 z4 : Int32) : Step (f_X3_snow 0 z1 z2 z3 z4) (f_X4_snow 50 z1 z2 z3 z4) w X Y := by
  obtain ⟨μ, h3⟩ := x_snow (putY w X.1 Y) (X := X) hI.W z1 z2 z3 z4
  obtain ⟨Y', e, h4⟩ := m_snow (putX w (xmind X μ)) Y (κ := X.1) hI.W hI.s z1 z2 z3 z4
  exact Step.mk' h3 h4 ((hI.mind μ).yk e)
theorem st_mountains {X : aX} {Y : aY} (hI : Inv X Y) (w : aW) (z1 z2 z3 : Int32) : Step (f_X3_mountains 0 z1 z2 z3) (f_X4_mountains 50 z1 z2 z3) w X Y := by
  obtain ⟨μ, h3⟩ := x_mountains (putY w X.1 Y) (X := X) hI.W z1 z2 z3
  obtain ⟨Y', e, h4⟩ := m_mountains (putX w (xmind X μ)) Y (κ := X.1) hI.W hI.s z1 z2 z3
  exact Step.mk' h3 h4 ((hI.mind μ).yk e)
theorem st_whatIs {X : aX} {Y : aY} (hI : Inv X Y) (w : aW) (z1 z2 z3 : Int32) : Step (f_X3_whatIs 0 z1 z2 z3) (f_X4_whatIs 50 z1 z2 z3) w X Y := by
  obtain ⟨μ, h3⟩ := x_whatIs (putY w X.1 Y) (X := X) hI.W hI.S z1 z2 z3
  obtain ⟨Y', e, h4⟩ := m_whatIs (putX w (xmind X μ)) (Y := Y) (κ := X.1) hI.P hI.W hI.s z1 z2 z3
  exact Step.mk' h3 h4 ((hI.mind μ).yk e)
theorem st_whereFrom {X : aX} {Y : aY} (hI : Inv X Y) (w : aW) (z1 z2 : Int32) : Step (f_X3_whereFrom 0 z1 z2) (f_X4_whereFrom 50 z1 z2) w X Y := by
  obtain ⟨μ, h3⟩ := x_whereFrom (putY w X.1 Y) (X := X) hI.W hI.S z1 z2
  obtain ⟨Y', e, h4⟩ := m_whereFrom (putX w (xmind X μ)) (Y := Y) (κ := X.1) hI.P hI.W hI.s z1 z2
  exact Step.mk' h3 h4 ((hI.mind μ).yk e)
theorem st_whose {X : aX} {Y : aY} (hI : Inv X Y) (w : aW) (z1 z2 : Int32) : Step (f_X3_whose 0 z1 z2) (f_X4_whose 50 z1 z2) w X Y := by
  obtain ⟨μ, h3⟩ := x_whose (putY w X.1 Y) (X := X) hI.W hI.S z1 z2
  obtain ⟨Y', e, h4⟩ := m_whose (putX w (xmind X μ)) (Y := Y) (κ := X.1) hI.P hI.W hI.s z1 z2
  exact Step.mk' h3 h4 ((hI.mind μ).yk e)
theorem st_judge {X : aX} {Y : aY} (hI : Inv X Y) (w : aW) (z1 : Int32) : Step (f_X3_judge 0 z1) (f_X4_judge 50 z1) w X Y := by
  obtain ⟨μ, h3⟩ := x_judge (putY w X.1 Y) (X := X) hI.W hI.S z1
  obtain ⟨Y', e, h4⟩ := m_judge (putX w (xmind X μ)) (Y := Y) (κ := X.1) hI.P hI.W hI.s z1
  exact Step.mk' h3 h4 ((hI.mind μ).yk e)
theorem st_two {X : aX} {Y : aY} (hI : Inv X Y) (w : aW) (z1 z2 z3 : Int32) : Step (f_X3_two 0 z1 z2 z3) (f_X4_two 50 z1 z2 z3) w X Y := by
  obtain ⟨μ, f, g, h3⟩ := x_two (putY w X.1 Y) (X := X) hI.W z1 z2 z3
  obtain ⟨Y', e, h4⟩ := m_two (putX w (xtw X μ f g)) Y (κ := X.1) hI.W hI.s z1 z2 z3
  exact Step.mk' h3 h4 ((hI.tw μ f g).yk e)
theorem st_stands {X : aX} {Y : aY} (hI : Inv X Y) (w : aW) (z1 z2 : Int32) : Step (f_X3_stands 0 z1 z2) (f_X4_stands 50 z1 z2) w X Y :=
  Step.mk' (x_stands (putY w X.1 Y) (X := X) hI.W z1 z2) (m_stands (putX w (xnow X (standsK z1 z2 X.1).2)) Y (κ := X.1) hI.W z1 z2) ((hI.now (stands_WF hI.W z1 z2) (stands_CA hI.C z1 z2)).thr 0)
theorem st_walks {X : aX} {Y : aY} (hI : Inv X Y) (w : aW) (z1 z2 : Int32) : Step (f_X3_walks 0 z1 z2) (f_X4_walks 50 z1 z2) w X Y :=
  Step.mk' (x_walks (putY w X.1 Y) (X := X) hI.W z1 z2) (m_walks (putX w (xnow X (walksK z1 z2 X.1).2)) Y (κ := X.1) hI.W z1 z2) ((hI.now (walks_WF hI.W z1 z2) (walks_CA hI.C z1 z2)).thr 0)
theorem st_calls {X : aX} {Y : aY} (hI : Inv X Y) (w : aW) (z1 z2 : Int32) : Step (f_X3_calls 0 z1 z2) (f_X4_calls 50 z1 z2) w X Y :=
  Step.mk' (x_calls (putY w X.1 Y) (X := X) hI.W z1 z2) (m_calls (putX w (xnow X (callsK z1 z2 X.1).2)) Y (κ := X.1) hI.W z1 z2) ((hI.now (calls_WF hI.W z1 z2) (calls_CA hI.W hI.C z1 z2)).thr 0)
theorem st_answers {X : aX} {Y : aY} (hI : Inv X Y) (w : aW) (z1 : Int32) : Step (f_X3_answers 0 z1) (f_X4_answers 50 z1) w X Y :=
  Step.mk' (x_answers (putY w X.1 Y) (X := X) hI.W z1) (m_answers (putX w (xnow X (answersK z1 X.1).2)) Y (κ := X.1) hI.W z1) ((hI.now (answers_WF hI.W z1) (answers_CA hI.C z1)).thr 0)
theorem st_tongue {X : aX} {Y : aY} (hI : Inv X Y) (w : aW) (z1 z2 : Int32) : Step (f_X3_tongue 0 z1 z2) (f_X4_tongue 50 z1 z2) w X Y :=
  Step.mk' (x_tongue (putY w X.1 Y) (X := X) hI.W z1 z2) (m_tongue (putX w (xnow X (tongueK z1 z2 X.1).2)) Y (κ := X.1) hI.W z1 z2) ((hI.now (tongue_WF hI.W z1 z2) (tongue_CA hI.C z1 z2)).thr 0)
theorem st_means {X : aX} {Y : aY} (hI : Inv X Y) (w : aW) (z1 z2 : Int32) : Step (f_X3_means 0 z1 z2) (f_X4_means 50 z1 z2) w X Y :=
  Step.mk' (x_means (putY w X.1 Y) (X := X) hI.W z1 z2) (m_means (putX w (xnow X (meansK z1 z2 X.1).2)) Y (κ := X.1) hI.W z1 z2) ((hI.now (means_WF hI.W z1 z2) (means_CA hI.C z1 z2)).thr 0)
theorem st_days {X : aX} {Y : aY} (hI : Inv X Y) (w : aW) (z1 : Int32) : Step (f_X3_days 0 z1) (f_X4_days 50 z1) w X Y :=
  Step.mk' (x_days (putY w X.1 Y) (X := X) hI.W z1) (m_days (putX w (xnow X (daysOp z1 X.1).2)) Y (κ := X.1) hI.W hI.s z1) ((hI.now (daysOp_WF hI.W z1) (daysOp_CA hI.C z1)).thr 0)
theorem st_comes {X : aX} {Y : aY} (hI : Inv X Y) (w : aW) (z1 z2 : Int32) : Step (f_X3_comes 0 z1 z2) (f_X4_comes 50 z1 z2) w X Y := by
  obtain ⟨Y', e, h4⟩ := m_comes (putX w (xnow X (comesK z1 z2 X.1 X.2.2.2.2.1).2)) (Y := Y) (κ := X.1) hI.P hI.W z1 z2
  exact Step.mk' (x_comes (putY w X.1 Y) (X := X) hI.W z1 z2) h4 ((hI.now (comes_WF hI.W z1 z2 _) (comes_CA hI.C z1 z2 _)).yk e)
theorem st_mountain {X : aX} {Y : aY} (hI : Inv X Y) (w : aW) (z1 : Int32) : Step (f_X3_mountain 0 z1) (f_X4_mountain 50 z1) w X Y := by
  obtain ⟨μ, h3⟩ := x_mountain (putY w X.1 Y) (X := X) hI.W hI.C hI.S z1
  obtain ⟨Y', e, h4⟩ := m_mountain (putX w (xmind (xnow X (mtnK z1 X.1 X.2.2.2.2.1).2) μ)) (Y := Y) (κ := X.1) hI.P hI.W hI.C hI.s z1
  exact Step.mk' h3 h4 (((hI.now (mtn_good hI.W hI.C z1 _).1 (mtn_good hI.W hI.C z1 _).2).mind μ).yk e)
theorem st_beast {X : aX} {Y : aY} (hI : Inv X Y) (w : aW) (z1 z2 : Int32) : Step (f_X3_beast 0 z1 z2) (f_X4_beast 50 z1 z2) w X Y :=
  Step.mk' (x_beast (putY w X.1 Y) (X := X) hI.W z1 z2) (m_beast (putX w X) Y (κ := X.1) hI.W z1 z2) (hI.thr 0)
theorem st_person {X : aX} {Y : aY} (hI : Inv X Y) (w : aW) (z1 z2 : Int32) : Step (f_X3_person 0 z1 z2) (f_X4_person 50 z1 z2) w X Y :=
  Step.mk' (x_person (putY w X.1 Y) X z1 z2) (m_person (putX w X) Y (κ := X.1) hI.W z1 z2) (hI.thr 0)
theorem st_nearest {X : aX} {Y : aY} (hI : Inv X Y) (w : aW) (z1 : Int32) : Step (f_X3_nearest 0 z1) (f_X4_nearest 50 z1) w X Y :=
  Step.mk' (x_nearest (putY w X.1 Y) (X := X) hI.W z1) (m_nearest (putX w X) Y (κ := X.1) hI.W z1) (hI.thr 0)
theorem st_of {X : aX} {Y : aY} (hI : Inv X Y) (w : aW) (z1 : Int32) : Step (f_X3_of 0 z1) (f_X4_of 50 z1) w X Y :=
  Step.mk' (x_of (putY w X.1 Y) (X := X) hI.W.1 z1) (m_of (putX w X) Y (κ := X.1) hI.W z1) (hI.thr 0)
theorem st_count {X : aX} {Y : aY} (hI : Inv X Y) (w : aW) (z1 : Int32) : Step (f_X3_count 0 z1) (f_X4_count 50 z1) w X Y :=
  Step.mk' (x_count (putY w X.1 Y) X z1) (m_count (putX w X) Y (κ := X.1) hI.W z1) (hI.thr 0)
theorem st_forged {X : aX} {Y : aY} (hI : Inv X Y) (w : aW) (z1 : Int32) : Step (f_X3_forged 0 z1) (f_X4_forged 50 z1) w X Y :=
  Step.mk' (x_forged (putY w X.1 Y) (X := X) hI.W hI.S z1) (m_forged (putX w X) (Y := Y) (κ := X.1) hI.P hI.W z1) (hI.thr 0)
theorem st_share {X : aX} {Y : aY} (hI : Inv X Y) (w : aW) (z1 z2 : Int32) : Step (f_X3_share 0 z1 z2) (f_X4_share 50 z1 z2) w X Y :=
  Step.mk' (x_share (putY w X.1 Y) (X := X) hI.W z1 z2) (m_share (putX w X) Y (κ := X.1) hI.W z1 z2) (hI.thr 0)
theorem st_cost {X : aX} {Y : aY} (hI : Inv X Y) (w : aW) (z1 : Int32) : Step (f_X3_cost 0 z1) (f_X4_cost 50 z1) w X Y :=
  Step.mk' (x_cost (putY w X.1 Y) X z1) (m_cost (putX w X) X.1 (Y := Y) hI.P z1) (hI.thr 0)
theorem st_keep {X : aX} {Y : aY} (hI : Inv X Y) (w : aW) (z1 z2 z3 z4 : Int32) : Step (f_X3_keep 0 z1 z2 z3 z4) (f_X4_keep 50 z1 z2 z3 z4) w X Y := by
  obtain ⟨Y', e, hC, h4⟩ := m_keep (putX w (xsig X (keepS z1 z2 z3 z4 X.2.2.2.2.1).2)) X.1 hI.P z1 z2 z3 z4
  exact Step.mk' (x_keep (putY w X.1 Y) X z1 z2 z3 z4) h4 (hI.im e hC)
theorem st_row {X : aX} {Y : aY} (hI : Inv X Y) (w : aW) (z1 z2 z3 : Int32) : Step (f_X3_row 0 z1 z2 z3) (f_X4_row 50 z1 z2 z3) w X Y := by
  obtain ⟨Y', e, hC, h4⟩ := m_row (putX w (xsig X (rowOp z1 z2 z3 X.2.2.2.2.1).2)) X.1 hI.P z1 z2 z3
  exact Step.mk' (x_row (putY w X.1 Y) X z1 z2 z3) h4 (hI.im e hC)
theorem st_put {X : aX} {Y : aY} (hI : Inv X Y) (w : aW) (z1 z2 z3 : Int32) : Step (f_X3_put 0 z1 z2 z3) (f_X4_put 50 z1 z2 z3) w X Y := by
  obtain ⟨Y', e, hC, h4⟩ := m_put (putX w (xsig X (putO z1 z2 z3 X.2.2.2.2.1).2)) X.1 hI.P z1 z2 z3
  exact Step.mk' (x_put (putY w X.1 Y) X hI.S z1 z2 z3) h4 (hI.im e hC)
theorem st_copy {X : aX} {Y : aY} (hI : Inv X Y) (w : aW) (z1 z2 z3 z4 z5 : Int32) : Step (f_X3_copy 0 z1 z2 z3 z4 z5) (f_X4_copy 50 z1 z2 z3 z4 z5) w X Y := by
  obtain ⟨Y', e, hC, h4⟩ := m_copy (putX w (xsig X (copyK z1 z2 z3 z4 z5 X.2.2.2.2.1).2)) X.1 hI.P z1 z2 z3 z4 z5
  exact Step.mk' (x_copy (putY w X.1 Y) X hI.S z1 z2 z3 z4 z5) h4 (hI.im e hC)
theorem st_image {X : aX} {Y : aY} (hI : Inv X Y) (w : aW) : Step (f_X3_image 0) (f_X4_image 50) w X Y := by
  obtain ⟨Y', e0, e6, hK, e1, e2, h4⟩ := m_image (putX w (xhp (xpict X X.1) 1)) Y (κ := X.1) hI.W.1
  refine Step.mk' (x_image (putY w X.1 Y) X) h4 ?_
  exact ⟨hI.W, hI.C, e0.trans hI.s, hI.P.of e1 e2, e6.symm, fun _ => ⟨hK, hI.W, hI.C⟩⟩
theorem st_restore {X : aX} {Y : aY} (hI : Inv X Y) (w : aW) : Step (f_X3_restore 0) (f_X4_restore 50) w X Y := by
  have h3 := x_restore (putY w X.1 Y) X
  have h6 := hI.2.2.2.2.1
  by_cases h : Y.1 6 = 0
  · rw [if_pos (h6.trans h)] at h3
    obtain ⟨Y', e, h4⟩ := m_restore (putX w X) Y X.1 (κ0 := X.1) hI.W.1 (fun h2 => absurd h h2)
    rw [if_pos h] at h4
    exact Step.mk' h3 h4 (hI.yk e)
  · rw [if_neg (by rw [h6]; exact h)] at h3
    obtain ⟨g1, g2, g3⟩ := hI.2.2.2.2.2 h
    obtain ⟨Y', e, h4⟩ := m_restore (putX w (xnow X X.2.2.1)) Y X.1 (κ0 := X.2.2.1) g2.1 (fun _ => g1)
    rw [if_neg h] at h4
    exact Step.mk' h3 h4 ((hI.now g2 g3).yk e)
