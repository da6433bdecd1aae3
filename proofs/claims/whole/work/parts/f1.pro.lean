theorem dL_law_0 : decode code 0 = .ok (.new 8, 3) := by decide +kernel
theorem dL_law_3 : decode code 3 = .ok (.dup, 1) := by decide +kernel
theorem dL_law_4 : decode code 4 = .ok (.invokespecial 17, 3) := by decide +kernel
theorem dL_law_7 : decode code 7 = .ok (.astore_n 1, 1) := by decide +kernel
theorem dL_law_8 : decode code 8 = .ok (.new 18, 3) := by decide +kernel
theorem dL_law_11 : decode code 11 = .ok (.dup, 1) := by decide +kernel
theorem dL_law_12 : decode code 12 = .ok (.invokespecial 20, 3) := by decide +kernel
theorem dL_law_15 : decode code 15 = .ok (.astore_n 2, 1) := by decide +kernel
theorem dL_law_16 : decode code 16 = .ok (.iconst 1, 1) := by decide +kernel
theorem dL_law_17 : decode code 17 = .ok (.newarray .long, 2) := by decide +kernel
theorem dL_law_19 : decode code 19 = .ok (.astore_n 3, 1) := by decide +kernel
theorem dL_law_20 : decode code 20 = .ok (.iconst 0, 1) := by decide +kernel
theorem dL_law_21 : decode code 21 = .ok (.istore 4, 2) := by decide +kernel
theorem xLk_X3 : Cond.classLink RL 8 RX3 ∈ a_T := a_in 91 (by decide +kernel) rfl
theorem xLi_X3 : Cond.instantiable RX3 7 ∈ a_T := a_in 92 (by decide +kernel) rfl
theorem xLz_X3 : Cond.initialized RX3 ∈ a_T := a_in 76 (by decide +kernel) rfl
theorem xLl_X3 : Cond.methodLink RL 17 M_X3_init.1 ∈ a_T := a_in 93 (by decide +kernel) rfl
theorem xLm_X3 : Cond.instanceMethod M_X3_init.1 ∈ a_T := a_in 94 (by decide +kernel) rfl
theorem hz_X3 : ∀ j, j < 7 → defaultValue (tyX3 j) = vp_V zX3 j := fun j hj => by
  rcases (show j = 0 ∨ j = 1 ∨ j = 2 ∨ j = 3 ∨ j = 4 ∨ j = 5 ∨ j = 6 by omega) with rfl | rfl | rfl | rfl | rfl | rfl | rfl <;> rfl
theorem xLk_X4 : Cond.classLink RL 18 RX4 ∈ a_T := a_in 859 (by decide +kernel) rfl
theorem xLi_X4 : Cond.instantiable RX4 37 ∈ a_T := a_in 860 (by decide +kernel) rfl
theorem xLz_X4 : Cond.initialized RX4 ∈ a_T := a_in 79 (by decide +kernel) rfl
theorem xLl_X4 : Cond.methodLink RL 20 M_X4_init.1 ∈ a_T := a_in 861 (by decide +kernel) rfl
theorem xLm_X4 : Cond.instanceMethod M_X4_init.1 ∈ a_T := a_in 862 (by decide +kernel) rfl
theorem hz_X4 : ∀ j, j < 37 → defaultValue (tyX4 j) = vp_V zX4 j := fun j hj => by
  rcases (show j = 0 ∨ j = 1 ∨ j = 2 ∨ j = 3 ∨ j = 4 ∨ j = 5 ∨ j = 6 ∨ j = 7 ∨ j = 8 ∨ j = 9 ∨ j = 10 ∨ j = 11 ∨ j = 12 ∨ j = 13 ∨ j = 14 ∨ j = 15 ∨ j = 16 ∨ j = 17 ∨ j = 18 ∨ j = 19 ∨ j = 20 ∨ j = 21 ∨ j = 22 ∨ j = 23 ∨ j = 24 ∨ j = 25 ∨ j = 26 ∨ j = 27 ∨ j = 28 ∨ j = 29 ∨ j = 30 ∨ j = 31 ∨ j = 32 ∨ j = 33 ∨ j = 34 ∨ j = 35 ∨ j = 36 by omega) with rfl | rfl | rfl | rfl | rfl | rfl | rfl | rfl | rfl | rfl | rfl | rfl | rfl | rfl | rfl | rfl | rfl | rfl | rfl | rfl | rfl | rfl | rfl | rfl | rfl | rfl | rfl | rfl | rfl | rfl | rfl | rfl | rfl | rfl | rfl | rfl | rfl <;> rfl
theorem h_istore4 {K : gK} {t u pc : Nat} {Lr : List (Nat × Value)} {S : List Value} {ws : va_W} {x : Int32} {Lr' : List (Nat × Value)} (hK : K.Ok) (hd : decode K.M.2.1 pc = .ok (.istore 4, 2)) (hn : 4 < K.M.2.2.1) (hL : (4, Value.int x) :: Lr.filter (fun q => !(q.1 == 4) && !(q.1 + 1 == 4 && q.2.category == 2)) = Lr') (k : Hw K t u (pc + 2) Lr' S ws) : Hw K t u pc Lr (.int x :: S) ws := by
  subst hL
  intro H locs ls hP hD hS hl
  exact lv_istore hK.1.1 hK.1.2.1 hd hl hn rfl (fun ls' hl' => k H locs ls' hP hD hS hl')
theorem law_pro {K : gK} (hM : K.M = M_law) (hK : K.Ok) (hAO : va_AO "WhoeverNamesIt$Shelf" K.s) (hR : K.R = room_1) {b : Nat}
    (next : ∀ (x y z : Nat) (w3 w4 : va_W), postX3 K.ca x w3 → postX4 K.ca y w4 → Hw K 100 3000 23 [(4, .int 0), (3, .ref z), (2, .ref y), (1, .ref x), (0, .ref b)] [] ((w3 ++ w4) ++ [(z, .inl (K.ca 1, 1, .inr (.inl (fun _ => 0))))])) : Hw K 0 0 0 [(0, .ref b)] [] [] := by
  obtain ⟨M, K'⟩ := K
  have hM : M = M_law := hM
  subst hM
  have hc : (gK.R (M_law, K')).cells = 601024 := by rw [hR]; rfl
  have hs : (gK.R (M_law, K')).slots = 7293034 := by rw [hR]; rfl
  refine h_new (pc := 0) (ci := 2) (fs := zX3) hK rfl tin_X3 tyX3 tyX3_ok xLk_X3 xLi_X3 xLz_X3 hz_X3 (by omega) (by omega) dL_law_0 (fun x => ?_)
  refine h_dup (pc := 3) hK dL_law_3 rfl ?_
  refine h_callK (pc := 4) hK hAO ⟨by omega, by omega⟩ ok_X3_init rfl rfl (by rw [hR]; exact ⟨Nat.le_of_ble_eq_true rfl, Nat.le_of_ble_eq_true rfl⟩) xLl_X3 xLm_X3 dL_law_4 K_X3 (Nat.le_of_ble_eq_true rfl) (fun w3 h3 => ?_)
  refine h_ws (ws' := w3) rfl ?_
  refine h_astore1 (pc := 7) (Lr' := [(1, .ref x), (0, .ref b)]) hK dL_law_7 rfl (show 1 < 8 by decide) rfl ?_
  refine h_new (pc := 8) (ci := 3) (fs := zX4) hK rfl tin_X4 tyX4 tyX4_ok xLk_X4 xLi_X4 xLz_X4 hz_X4 (by omega) (by omega) dL_law_8 (fun y => ?_)
  refine h_dup (pc := 11) hK dL_law_11 rfl ?_
  refine h_callK (pc := 12) hK hAO ⟨by omega, by omega⟩ ok_X4_init rfl rfl (by rw [hR]; exact ⟨Nat.le_of_ble_eq_true rfl, Nat.le_of_ble_eq_true rfl⟩) xLl_X4 xLm_X4 dL_law_12 K_X4 (Nat.le_of_ble_eq_true rfl) (fun w4 h4 => ?_)
  refine h_astore1 (pc := 15) (Lr' := [(2, .ref y), (1, .ref x), (0, .ref b)]) hK dL_law_15 rfl (show 2 < 8 by decide) rfl ?_
  refine h_iconst (pc := 16) hK dL_law_16 (show _ = (1 : Int32) by decide) ?_
  refine h_newL (pc := 17) (N := 1) hK xarrL dL_law_17 (by decide) (by decide) (by decide) (by omega) (by omega) (fun z => ?_)
  refine h_astore1 (pc := 19) (Lr' := [(3, .ref z), (2, .ref y), (1, .ref x), (0, .ref b)]) hK dL_law_19 rfl (show 3 < 8 by decide) rfl ?_
  refine h_iconst (pc := 20) hK dL_law_20 (show _ = (0 : Int32) by decide) ?_
  refine h_istore4 (pc := 21) (Lr' := [(4, .int 0), (3, .ref z), (2, .ref y), (1, .ref x), (0, .ref b)]) hK dL_law_21 (show 4 < 8 by decide) rfl ?_
  exact h_wide (by omega) (by omega) (next x y z w3 w4 h3 h4)
