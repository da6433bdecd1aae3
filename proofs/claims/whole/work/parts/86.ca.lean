/-! PURE: the called live: kept by the plain changes -/
theorem CA_other {κ : aK} (hC : CA κ) {k : Nat} (hk : k ≠ 4) (i : Nat) (x : Int32) : CA (kset κ k i x) := by
  intro z hz hne
  refine hC z hz ?_
  have e : (kset κ k i x).2.2 4 z = κ.2.2 4 z := by
    show (if 4 = k then upd (κ.2.2 k) i x else κ.2.2 4) z = _
    rw [if_neg (fun h => hk h.symm)]
  rw [← e]; exact hne
theorem CA_free {κ : aK} (hC : CA κ) (i : Nat) : CA (kset κ 4 i (-4)) := by
  intro z hz hne
  refine hC z hz ?_
  have e : (kset κ 4 i (-4)).2.2 4 z = if z = i then -4 else κ.2.2 4 z := rfl
  rw [e] at hne
  by_cases h : z = i
  · rw [if_pos h] at hne; exact absurd rfl hne
  · rw [if_neg h] at hne; exact hne
theorem stands_CA {κ : aK} (hC : CA κ) (x y : Int32) : CA (standsK x y κ).2 := by
  unfold standsK
  repeat' split
  · exact CA_other hC (by decide) _ _
  all_goals exact hC
theorem walks_CA {κ : aK} (hC : CA κ) (x y : Int32) : CA (walksK x y κ).2 := by
  unfold walksK
  repeat' split
  · exact CA_other hC (by decide) _ _
  all_goals exact hC
theorem tongue_CA {κ : aK} (hC : CA κ) (x y : Int32) : CA (tongueK x y κ).2 := by
  unfold tongueK
  repeat' split
  · exact CA_other hC (by decide) _ _
  all_goals exact hC
theorem means_CA {κ : aK} (hC : CA κ) (x y : Int32) : CA (meansK x y κ).2 := by
  unfold meansK
  repeat' split
  · exact CA_other hC (by decide) _ _
  all_goals exact hC
theorem answers_CA {κ : aK} (hC : CA κ) (x : Int32) : CA (answersK x κ).2 := by
  unfold answersK
  repeat' split
  all_goals first | exact hC | exact CA_free hC _
theorem calls_CA {κ : aK} (hW : WF κ) (hC : CA κ) (x y : Int32) : CA (callsK x y κ).2 := by
  unfold callsK
  by_cases h1 : inR x 0 4 = true
  · rw [if_pos h1]
    by_cases h2 : inR y 0 (nI κ.1 - 1) = true
    · rw [if_pos h2]
      by_cases h3 : bitB (κ.2.1 1) y = true
      · rw [if_pos h3]
        obtain ⟨b, hb, hy⟩ := inB hW.1 h2
        subst hy
        rw [ix_nI (by have := hW.1; omega)]
        exact (Liv.call h3).2 hC
      · rw [if_neg h3]; exact hC
    · rw [if_neg h2]; exact hC
  · rw [if_neg h1]; exact hC
theorem days_CA {κ : aK} (hC : CA κ) (n : Nat) : CA (daysK n κ) := (days_liv n κ).2 hC
theorem daysOp_CA {κ : aK} (hC : CA κ) (x : Int32) : CA (daysOp x κ).2 := by
  unfold daysOp
  repeat' split
  · exact days_CA hC _
  all_goals exact hC
