def M_L_element : aM := (yL_element, cL_element, 5, some .int, 9, 180)
abbrev hhE : List (Nat × Nat × Nat × Nat) := [(0, 9, 12, 13), (0, 9, 16, 15)]
theorem dL_element_0 : decode M_L_element.2.1 0 = .ok (.aload_n 3, 1) := by decide +kernel
theorem dL_element_1 : decode M_L_element.2.1 1 = .ok (.iconst 0, 1) := by decide +kernel
theorem dL_element_2 : decode M_L_element.2.1 2 = .ok (.aload_n 0, 1) := by decide +kernel
theorem dL_element_3 : decode M_L_element.2.1 3 = .ok (.iload_n 1, 1) := by decide +kernel
theorem dL_element_4 : decode M_L_element.2.1 4 = .ok (.iload_n 2, 1) := by decide +kernel
theorem dL_element_5 : decode M_L_element.2.1 5 = .ok (.invokevirtual 7, 3) := by decide +kernel
theorem dL_element_8 : decode M_L_element.2.1 8 = .ok (.lastore, 1) := by decide +kernel
theorem dL_element_9 : decode M_L_element.2.1 9 = .ok (.goto 11, 3) := by decide +kernel
theorem dL_element_12 : decode M_L_element.2.1 12 = .ok (.astore 4, 2) := by decide +kernel
theorem dL_element_14 : decode M_L_element.2.1 14 = .ok (.iconst 1, 1) := by decide +kernel
theorem dL_element_15 : decode M_L_element.2.1 15 = .ok (.ireturn, 1) := by decide +kernel
theorem dL_element_16 : decode M_L_element.2.1 16 = .ok (.astore 4, 2) := by decide +kernel
theorem dL_element_18 : decode M_L_element.2.1 18 = .ok (.iconst 2, 1) := by decide +kernel
theorem dL_element_19 : decode M_L_element.2.1 19 = .ok (.ireturn, 1) := by decide +kernel
theorem dL_element_20 : decode M_L_element.2.1 20 = .ok (.iconst 0, 1) := by decide +kernel
theorem dL_element_21 : decode M_L_element.2.1 21 = .ok (.ireturn, 1) := by decide +kernel
theorem ok_L_element : a_okW M_L_element hhE 4 := ⟨⟨by decide +kernel, by decide +kernel⟩, by decide +kernel, a_in 847 (by decide +kernel) rfl, a_in 75 (by decide +kernel) rfl⟩
theorem ok_X3_toss : a_okW M_X3_toss hhT 1 := ⟨⟨by decide +kernel, by decide +kernel⟩, by decide +kernel, a_in 738 (by decide +kernel) rfl, a_in 76 (by decide +kernel) rfl⟩
theorem xk_l13 : Cond.classLink RL 13 sIA ∈ a_T := a_in 848 (by decide +kernel) rfl
theorem xk_l15 : Cond.classLink RL 15 sIS ∈ a_T := a_in 849 (by decide +kernel) rfl
theorem hv_L_7 : a_okV RL M_X3_element 7 := ⟨a_in 850 (by decide +kernel) rfl, a_in 851 (by decide +kernel) rfl, a_in 852 (by decide +kernel) rfl⟩
theorem ht_L_195 : a_okS RL M_L_element 195 := ⟨a_in 845 (by decide +kernel) rfl, a_in 846 (by decide +kernel) rfl⟩
def te1 : ExceptionTableEntry := ⟨0, 9, 12, 13⟩
def te2 : ExceptionTableEntry := ⟨0, 9, 16, 15⟩
theorem teT : tableOf hhE = [te1, te2] := by rfl
theorem elem_cases (x i : Int32) (σ : Nat → aS) : (∃ v, elemK x i σ = (0, v)) ∨ elemK x i σ = (1, 0) ∨ elemK x i σ = (2, 0) := by
  unfold elemK
  by_cases h1 : inR x 0 7 = true
  · rw [if_pos h1]
    by_cases h2 : rowR (σ (ix x)) = 0
    · rw [if_pos h2]
      by_cases h3 : inR i 0 ((σ (ix x)).1 4 - 1) = true
      · rw [if_pos h3]; exact Or.inl ⟨_, rfl⟩
      · rw [if_neg h3]; exact Or.inr (Or.inr rfl)
    · rw [if_neg h2]; exact Or.inr (Or.inr rfl)
  · rw [if_neg h1]; exact Or.inr (Or.inl rfl)
def outU (w : aW) (f : Nat → Int64) (v : Int64) : aW := a_up w 74 (.inl (1, 1, .inr (.inl (vp_updL f 0 v))))
theorem out_X (w : aW) (X : aX) (f : Nat → Int64) (v : Int64) : a_up (putX w X) 74 (.inl (1, 1, .inr (.inl (vp_updL f 0 v)))) = putX (outU w f v) X := by
  funext i
  unfold outU a_up
  by_cases h : i = 74
  · subst h; rw [if_pos rfl, putX_off _ _ (by decide), if_pos rfl]
  · rw [if_neg h]
    rcases Nat.lt_or_ge i 50 with h2 | h2
    · exact putX_on _ _ _ h2
    · rw [putX_off _ _ h2, putX_off _ _ h2, if_neg h]
theorem out_Y (w : aW) (κ : aK) (Y : aY) (f : Nat → Int64) (v : Int64) : outU (putY w κ Y) f v = putY (outU w f v) κ Y := by
  funext i
  by_cases h : i = 74
  · subst h; rw [putY_off _ _ _ (Or.inr (by decide))]; rfl
  · have e : ∀ w : aW, outU w f v i = w i := fun w => if_neg h
    rw [e]
    rcases Nat.lt_or_ge i 50 with h2 | h2
    · rw [putY_off _ _ _ (Or.inl h2), putY_off _ _ _ (Or.inl h2), e]
    · rcases Nat.lt_or_ge 73 i with h3 | h3
      · rw [putY_off _ _ _ (Or.inr h3), putY_off _ _ _ (Or.inr h3), e]
      · exact putY_on _ _ _ _ h2 h3
def elW (w : aW) (X : aX) (f : Nat → Int64) (p : Int32 × Int64) : aW := if p.1 = 0 then putX (outU w f p.2) X else putX w X
theorem a_la_74 {w : aW} {X : aX} {f : Nat → Int64} (hw : w 74 = .inl (1, 1, .inr (.inl f))) : a_la (putX w X) 74 = some (1, f) := by
  unfold a_la
  rw [if_pos (by decide), putX_off _ _ (by decide), hw]
  rfl
theorem X_Lel (w : aW) (X : aX) (hS : ∀ d, d < 8 → WFs (X.2.2.2.2.1 d)) {f : Nat → Int64} (hw : w 74 = .inl (1, 1, .inr (.inl f))) (x i : Int32) : Yp rvI M_L_element hhE [.ref 0, .int x, .int i, .ref 74] (putX w X) ((elemK x i X.2.2.2.2.1).1, elW w X f (elemK x i X.2.2.2.2.1)) := by
  refine y_entry [some (.ref 0), some (.int x), some (.int i), some (.ref 74), none] (by decide +kernel) (Nat.le_of_ble_eq_true rfl) (fun _ => rfl) (fun K hM hK hE => ?_)
  obtain ⟨M, K'⟩ := K
  have hM : M = M_L_element := hM
  subst hM
  have hR : gK.R (M_L_element, K') = a_RX M_L_element := hE.2.2.1
  have hf : 0 ≤ (gK.R (M_L_element, K')).cells ∧ 0 ≤ (gK.R (M_L_element, K')).slots := ⟨Nat.zero_le _, Nat.zero_le _⟩
  have hf1 : 1 ≤ (gK.R (M_L_element, K')).cells ∧ 6 ≤ (gK.R (M_L_element, K')).slots := by rw [hR]; exact ⟨Nat.le_refl 1, Nat.le_refl 6⟩
  have hX := hE.2.2.2.2.2
  have hl0 := hE.2.2.2.2.1
  have hT : (gK.c (M_L_element, K')).exceptionTable.toList = [te1, te2] := hE.2.2.2.1.trans teT
  refine g_aload_n (pc := 0) hK dL_element_0 rfl rfl ?_
  refine g_iconst (pc := 1) hK dL_element_1 kc_0 ?_
  refine g_aload_n (pc := 2) hK dL_element_2 rfl rfl ?_
  refine g_iload_n (pc := 3) hK dL_element_3 rfl rfl ?_
  refine g_iload_n (pc := 4) hK dL_element_4 rfl rfl ?_
  refine y_callV (pc := 5) (rv' := rvL) (c0 := 2) (S := [.int (0 : Int32), .ref 74]) hK hl0 hX hf1 rfl rfl ok_X3_element (by rw [hR]; exact ⟨Nat.le_of_ble_eq_true rfl, Nat.le_of_ble_eq_true rfl⟩) hv_L_7 dL_element_5 ⟨by decide, _, rfl⟩ (X_element w X hS x i) rfl rfl (Nat.le_of_ble_eq_true rfl) ?_ ?_
  · intro v hv
    rcases elem_cases x i X.2.2.2.2.1 with ⟨v', e⟩ | e | e
    · rw [e] at hE hv
      rw [resE_0] at hv
      cases Sum.inl.inj hv
      refine g_last (pc := 8) (a := (1, f)) hK dL_element_8 (a_la_74 hw) (show ¬ ((0 : Int32) < 0 ∨ 1 ≤ (0 : Int32).toNatClampNeg) by decide) ?_
      refine g_goto (pc := 9) (tgt := 20) hK dL_element_9 (by decide) ?_
      refine g_iconst (pc := 20) hK dL_element_20 kc_0 ?_
      have e2 : a_up (putX w X) 74 (.inl (1, (1, f).1, .inr (.inl (vp_updL (1, f).2 (0 : Int32).toNatClampNeg v)))) = elW w X f (0, v) := (out_X w X f v).trans (if_pos rfl).symm
      rw [e2]
      exact y_iret (pc := 21) hK hE (Nat.le_refl 1) (Nat.le_refl 6) dL_element_21 rfl
    · rw [e] at hv; rw [resE_1] at hv; cases hv
    · rw [e] at hv; rw [resE_2] at hv; cases hv
  · intro E hr
    rcases elem_cases x i X.2.2.2.2.1 with ⟨v', e⟩ | e | e
    · rw [e] at hr; rw [resE_0] at hr; cases hr
    · rw [e] at hE hr
      rw [resE_1] at hr
      cases Sum.inr.inj hr
      refine y_catch (nm := sIA) hK hX [] te1 [te2] hT (fun z hz => absurd hz List.not_mem_nil) (by decide) (by decide) xk_l13 xc_1 rfl dL_element_12 (show 4 < 5 by decide) (L_4 (fun v h => by cases h; exact (by decide : ¬ (1 : Nat) = 2))) ?_
      refine g_iconst (pc := 14) hK dL_element_14 kc_1 ?_
      exact y_iret (pc := 15) hK hE (Nat.le_refl 1) (Nat.le_refl 6) dL_element_15 rfl
    · rw [e] at hE hr
      rw [resE_2] at hr
      cases Sum.inr.inj hr
      refine y_catch (nm := sIS) hK hX [te1] te2 [] hT (fun z hz => by
        rw [List.mem_singleton] at hz
        subst hz
        exact Or.inr ⟨by decide, sIA, xk_l13, hX.2.2.2.1⟩) (by decide) (by decide) xk_l15 xc_2 rfl dL_element_16 (show 4 < 5 by decide) (L_4 (fun v h => by cases h; exact (by decide : ¬ (1 : Nat) = 2))) ?_
      refine g_iconst (pc := 18) hK dL_element_18 kc_2 ?_
      exact y_iret (pc := 19) hK hE (Nat.le_refl 1) (Nat.le_refl 6) dL_element_19 rfl
