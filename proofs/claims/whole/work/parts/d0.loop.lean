theorem dL_law_23 : decode code 23 = .ok (.iload 4, 2) := by decide +kernel
theorem dL_law_25 : decode code 25 = .ok (.aload_n 0, 1) := by decide +kernel
theorem dL_law_26 : decode code 26 = .ok (.arraylength, 1) := by decide +kernel
theorem dL_law_27 : decode code 27 = .ok (.bipush 6, 2) := by decide +kernel
theorem dL_law_29 : decode code 29 = .ok (.isub, 1) := by decide +kernel
theorem dL_law_30 : decode code 30 = .ok (.if_icmp .gt 1914, 3) := by decide +kernel
theorem dL_law_33 : decode code 33 = .ok (.aload_n 0, 1) := by decide +kernel
theorem dL_law_34 : decode code 34 = .ok (.iload 4, 2) := by decide +kernel
theorem dL_law_36 : decode code 36 = .ok (.iaload, 1) := by decide +kernel
theorem dL_law_37 : decode code 37 = .ok (.bipush 63, 2) := by decide +kernel
theorem dL_law_39 : decode code 39 = .ok (.iand, 1) := by decide +kernel
theorem dL_law_40 : decode code 40 = .ok (.tableswitch 1898 0 45 #[200, 225, 262, 299, 336, 373, 410, 447, 472, 509, 546, 571, 620, 669, 706, 731, 756, 769, 794, 843, 880, 917, 966, 1003, 1028, 1077, 1102, 1127, 1176, 1213, 1250, 1299, 1361, 1399, 1424, 1449, 1498, 1511, 1524, 1549, 1610, 1659, 1708, 1775, 1848, 1873], 200) := by decide +kernel
theorem dL_law_1938 : decode code 1938 = .ok (.iinc 4 6, 3) := by decide +kernel
theorem dL_law_1941 : decode code 1941 = .ok (.goto (-1918), 3) := by decide +kernel
theorem dL_law_1944 : decode code 1944 = .ok (.iconst 1, 1) := by decide +kernel
theorem dL_law_1945 : decode code 1945 = .ok (.ireturn, 1) := by decide +kernel
theorem and_63 (y : Int32) : ∃ z, z < 64 ∧ y &&& 63 = nI z := by
  refine ⟨(y &&& 63).toBitVec.toNat, ?_, ?_⟩
  · rw [Int32.toBitVec_and, BitVec.toNat_and]
    exact Nat.lt_of_le_of_lt Nat.and_le_right (by decide)
  · apply Int32.toBitVec_inj.mp
    show _ = BitVec.ofNat 32 _
    rw [BitVec.ofNat_toNat, BitVec.setWidth_eq]
theorem len_lt {n i : Nat} (hn : n ≤ 3072) (hi : i ≤ 3078) : (Int32.ofNat n - 6 < nI i) ↔ n < i + 6 := by
  have e1 : (Int32.ofNat n).toInt = (n : Int) := nI_toInt (n := n) (by omega)
  have e2 : (nI i).toInt = (i : Int) := nI_toInt (by omega)
  have e3 : (6 : Int32).toInt = 6 := by decide
  rw [Int32.lt_iff_toInt_lt, Int32.toInt_sub, e1, e2, e3]
  have e4 : ((n : Int) - 6).bmod (2 ^ 32) = (n : Int) - 6 := by
    apply Int.bmod_eq_of_le <;> omega
  rw [e4]
  omega
def Out (w : aW) : Prop := ∃ f : Nat → Int64, w 74 = .inl (1, 1, .inr (.inl f))
theorem kb_6' : (Int8.ofInt 6).toInt32 = (6 : Int32) := by decide
theorem kc_6' : Int32.ofInt 6 = (6 : Int32) := by decide
/-- one round of the law's loop -/
theorem law_round {K : lK} (h : K.Ok) (hx : K.Exc) {t u : Nat} (hf : t + 10 ≤ 601024 ∧ u + 100 ≤ 7293034) {w : aW} (ho : Out w) {X : aX} {Y : aY} (hI : Inv X Y) {a : Int32} (h0 : vp_in a K.n) (hin : ∀ v : Int32, v = 1 ∨ v = 2 ∨ v = 3 ∨ v = 4 ∨ v = 5 → vp_in (a + v) K.n) (next : ∀ (w' : aW) (X' : aX) (Y' : aY), Out w' → Inv X' Y' → Lw K (t + 10) (u + 100) 1938 (lL a) [] (Wd w' X' Y')) : Lw K t u 33 (lL a) [] (Wd w X Y) := by
  have hf' : t ≤ 601024 ∧ u ≤ 7293034 := ⟨by omega, by omega⟩
  have nx : ∀ (X' : aX) (Y' : aY), Inv X' Y' → Lw K t u 1938 (lL a) [] (Wd w X' Y') := fun X' Y' hI' => l_wide (by omega) (by omega) (next w X' Y' ho hI')
  refine l_aload h dL_law_33 rfl rfl ?_
  refine l_iload h dL_law_34 rfl ?_
  refine l_sld h dL_law_36 h0 ?_
  refine l_bipush h dL_law_37 kb_63 ?_
  refine l_iand h dL_law_39 ?_
  obtain ⟨k, hk, e⟩ := and_63 (K.xs a.toNatClampNeg)
  rw [e]
  rcases Nat.lt_or_ge k 46 with hk2 | hk2
  · rcases (show k = 0 ∨ k = 1 ∨ k = 2 ∨ k = 3 ∨ k = 4 ∨ k = 5 ∨ k = 6 ∨ k = 7 ∨ k = 8 ∨ k = 9 ∨ k = 10 ∨ k = 11 ∨ k = 12 ∨ k = 13 ∨ k = 14 ∨ k = 15 ∨ k = 16 ∨ k = 17 ∨ k = 18 ∨ k = 19 ∨ k = 20 ∨ k = 21 ∨ k = 22 ∨ k = 23 ∨ k = 24 ∨ k = 25 ∨ k = 26 ∨ k = 27 ∨ k = 28 ∨ k = 29 ∨ k = 30 ∨ k = 31 ∨ k = 32 ∨ k = 33 ∨ k = 34 ∨ k = 35 ∨ k = 36 ∨ k = 37 ∨ k = 38 ∨ k = 39 ∨ k = 40 ∨ k = 41 ∨ k = 42 ∨ k = 43 ∨ k = 44 ∨ k = 45 by omega) with rfl | rfl | rfl | rfl | rfl | rfl | rfl | rfl | rfl | rfl | rfl | rfl | rfl | rfl | rfl | rfl | rfl | rfl | rfl | rfl | rfl | rfl | rfl | rfl | rfl | rfl | rfl | rfl | rfl | rfl | rfl | rfl | rfl | rfl | rfl | rfl | rfl | rfl | rfl | rfl | rfl | rfl | rfl | rfl | rfl | rfl
    · exact l_tableIn (off := 200) (tgt := 240) h dL_law_40 (by decide) (by decide) (by decide) (by decide) (lc_mountain h hf' hI hin nx)
    · exact l_tableIn (off := 225) (tgt := 265) h dL_law_40 (by decide) (by decide) (by decide) (by decide) (lc_beast h hf' hI hin nx)
    · exact l_tableIn (off := 262) (tgt := 302) h dL_law_40 (by decide) (by decide) (by decide) (by decide) (lc_person h hf' hI hin nx)
    · exact l_tableIn (off := 299) (tgt := 339) h dL_law_40 (by decide) (by decide) (by decide) (by decide) (lc_comes h hf' hI hin nx)
    · exact l_tableIn (off := 336) (tgt := 376) h dL_law_40 (by decide) (by decide) (by decide) (by decide) (lc_stands h hf' hI hin nx)
    · exact l_tableIn (off := 373) (tgt := 413) h dL_law_40 (by decide) (by decide) (by decide) (by decide) (lc_walks h hf' hI hin nx)
    · exact l_tableIn (off := 410) (tgt := 450) h dL_law_40 (by decide) (by decide) (by decide) (by decide) (lc_calls h hf' hI hin nx)
    · exact l_tableIn (off := 447) (tgt := 487) h dL_law_40 (by decide) (by decide) (by decide) (by decide) (lc_answers h hf' hI hin nx)
    · exact l_tableIn (off := 472) (tgt := 512) h dL_law_40 (by decide) (by decide) (by decide) (by decide) (lc_tongue h hf' hI hin nx)
    · exact l_tableIn (off := 509) (tgt := 549) h dL_law_40 (by decide) (by decide) (by decide) (by decide) (lc_means h hf' hI hin nx)
    · exact l_tableIn (off := 546) (tgt := 586) h dL_law_40 (by decide) (by decide) (by decide) (by decide) (lc_days h hf' hI hin nx)
    · exact l_tableIn (off := 571) (tgt := 611) h dL_law_40 (by decide) (by decide) (by decide) (by decide) (lc_beastThen h hf' hI hin nx)
    · exact l_tableIn (off := 620) (tgt := 660) h dL_law_40 (by decide) (by decide) (by decide) (by decide) (lc_personThen h hf' hI hin nx)
    · exact l_tableIn (off := 669) (tgt := 709) h dL_law_40 (by decide) (by decide) (by decide) (by decide) (lc_named h hf' hI hin nx)
    · exact l_tableIn (off := 706) (tgt := 746) h dL_law_40 (by decide) (by decide) (by decide) (by decide) (lc_dies h hf' hI hin nx)
    · exact l_tableIn (off := 731) (tgt := 771) h dL_law_40 (by decide) (by decide) (by decide) (by decide) (lc_ruined h hf' hI hin nx)
    · exact l_tableIn (off := 756) (tgt := 796) h dL_law_40 (by decide) (by decide) (by decide) (by decide) (lc_still h hf' hI hin nx)
    · exact l_tableIn (off := 769) (tgt := 809) h dL_law_40 (by decide) (by decide) (by decide) (by decide) (lc_next h hf' hI hin nx)
    · exact l_tableIn (off := 794) (tgt := 834) h dL_law_40 (by decide) (by decide) (by decide) (by decide) (lc_name h hf' hI hin nx)
    · exact l_tableIn (off := 843) (tgt := 883) h dL_law_40 (by decide) (by decide) (by decide) (by decide) (lc_cover h hf' hI hin nx)
    · exact l_tableIn (off := 880) (tgt := 920) h dL_law_40 (by decide) (by decide) (by decide) (by decide) (lc_letGo h hf' hI hin nx)
    · exact l_tableIn (off := 917) (tgt := 957) h dL_law_40 (by decide) (by decide) (by decide) (by decide) (lc_stand h hf' hI hin nx)
    · exact l_tableIn (off := 966) (tgt := 1006) h dL_law_40 (by decide) (by decide) (by decide) (by decide) (lc_least h hf' hI hin nx)
    · exact l_tableIn (off := 1003) (tgt := 1043) h dL_law_40 (by decide) (by decide) (by decide) (by decide) (lc_exchange h hf' hI hin nx)
    · exact l_tableIn (off := 1028) (tgt := 1068) h dL_law_40 (by decide) (by decide) (by decide) (by decide) (lc_teach h hf' hI hin nx)
    · exact l_tableIn (off := 1077) (tgt := 1117) h dL_law_40 (by decide) (by decide) (by decide) (by decide) (lc_of h hf' hI hin nx)
    · exact l_tableIn (off := 1102) (tgt := 1142) h dL_law_40 (by decide) (by decide) (by decide) (by decide) (lc_nearest h hf' hI hin nx)
    · exact l_tableIn (off := 1127) (tgt := 1167) h dL_law_40 (by decide) (by decide) (by decide) (by decide) (lc_whatIs h hf' hI hin nx)
    · exact l_tableIn (off := 1176) (tgt := 1216) h dL_law_40 (by decide) (by decide) (by decide) (by decide) (lc_whereFrom h hf' hI hin nx)
    · exact l_tableIn (off := 1213) (tgt := 1253) h dL_law_40 (by decide) (by decide) (by decide) (by decide) (lc_whose h hf' hI hin nx)
    · exact l_tableIn (off := 1250) (tgt := 1290) h dL_law_40 (by decide) (by decide) (by decide) (by decide) (lc_two h hf' hI hin nx)
    · exact l_tableIn (off := 1299) (tgt := 1339) h dL_law_40 (by decide) (by decide) (by decide) (by decide) (lc_snow h hf' hI hin nx)
    · exact l_tableIn (off := 1361) (tgt := 1401) h dL_law_40 (by decide) (by decide) (by decide) (by decide) (lc_share h hf' hI hin nx)
    · exact l_tableIn (off := 1399) (tgt := 1439) h dL_law_40 (by decide) (by decide) (by decide) (by decide) (lc_forged h hf' hI hin nx)
    · exact l_tableIn (off := 1424) (tgt := 1464) h dL_law_40 (by decide) (by decide) (by decide) (by decide) (lc_judge h hf' hI hin nx)
    · exact l_tableIn (off := 1449) (tgt := 1489) h dL_law_40 (by decide) (by decide) (by decide) (by decide) (lc_mountains h hf' hI hin nx)
    · exact l_tableIn (off := 1498) (tgt := 1538) h dL_law_40 (by decide) (by decide) (by decide) (by decide) (lc_image h hf' hI hin nx)
    · exact l_tableIn (off := 1511) (tgt := 1551) h dL_law_40 (by decide) (by decide) (by decide) (by decide) (lc_restore h hf' hI hin nx)
    · exact l_tableIn (off := 1524) (tgt := 1564) h dL_law_40 (by decide) (by decide) (by decide) (by decide) (lc_count h hf' hI hin nx)
    · exact l_tableIn (off := 1549) (tgt := 1589) h dL_law_40 (by decide) (by decide) (by decide) (by decide) (lc_keep h hf' hI hin nx)
    · exact l_tableIn (off := 1610) (tgt := 1650) h dL_law_40 (by decide) (by decide) (by decide) (by decide) (lc_row h hf' hI hin nx)
    · exact l_tableIn (off := 1659) (tgt := 1699) h dL_law_40 (by decide) (by decide) (by decide) (by decide) (lc_put h hf' hI hin nx)
    · exact l_tableIn (off := 1708) (tgt := 1748) h dL_law_40 (by decide) (by decide) (by decide) (by decide) (lc_element h hx hf ho hI hin next)
    · exact l_tableIn (off := 1775) (tgt := 1815) h dL_law_40 (by decide) (by decide) (by decide) (by decide) (lc_copy h hf' hI hin nx)
    · exact l_tableIn (off := 1848) (tgt := 1888) h dL_law_40 (by decide) (by decide) (by decide) (by decide) (lc_cost h hf' hI hin nx)
    · exact l_tableIn (off := 1873) (tgt := 1913) h dL_law_40 (by decide) (by decide) (by decide) (by decide) (lc_toss h hx hf hI hin (fun X' Y' hI' => next w X' Y' ho hI'))
  · refine l_tableOut (tgt := 1938) h dL_law_40 (Or.inr ?_) (by decide) (nx X Y hI)
    rw [nI_toInt (by omega)]
    omega
/-- the law's loop -/
theorem law_loop {K : lK} (h : K.Ok) (hx : K.Exc) : ∀ (n j : Nat) (w : aW) (X : aX) (Y : aY), K.n < 6 * j + 6 * n → 6 * j ≤ K.n + 5 → Out w → Inv X Y → Lw K (100 + 10 * j) (3000 + 100 * j) 23 (lL (nI (6 * j))) [] (Wd w X Y) := by
  have hn := h.2.2.2.2
  intro n
  induction n with
  | zero =>
    intro j w X Y h1 h2 ho hI
    refine l_iload h dL_law_23 rfl ?_
    refine l_aload h dL_law_25 rfl rfl ?_
    refine l_slen h dL_law_26 ?_
    refine l_bipush h dL_law_27 kb_6' ?_
    refine l_isub h dL_law_29 ?_
    refine l_gt (tgt := 1944) h dL_law_30 (by decide) (fun _ => ?_) (fun q => absurd ((len_lt hn (by omega)).mpr (by omega)) q)
    exact l_end h dL_law_1944 dL_law_1945 (by omega) (by omega)
  | succ n ih =>
    intro j w X Y h1 h2 ho hI
    refine l_iload h dL_law_23 rfl ?_
    refine l_aload h dL_law_25 rfl rfl ?_
    refine l_slen h dL_law_26 ?_
    refine l_bipush h dL_law_27 kb_6' ?_
    refine l_isub h dL_law_29 ?_
    refine l_gt (tgt := 1944) h dL_law_30 (by decide) (fun _ => ?_) (fun q => ?_)
    · exact l_end h dL_law_1944 dL_law_1945 (by omega) (by omega)
    · have q2 : 6 * j + 6 ≤ K.n := by
        rcases Nat.lt_or_ge K.n (6 * j + 6) with z | z
        · exact absurd ((len_lt hn (by omega)).mpr z) q
        · exact z
      refine law_round h hx ⟨by omega, by omega⟩ ho hI (vp_in_nI (by omega) (by omega)) (fun v hv => ?_) (fun w' X' Y' ho' hI' => ?_)
      · have hh : ∃ i, i < 6 ∧ v = nI i := by
          rcases hv with rfl | rfl | rfl | rfl | rfl
          · exact ⟨1, by decide, by decide⟩
          · exact ⟨2, by decide, by decide⟩
          · exact ⟨3, by decide, by decide⟩
          · exact ⟨4, by decide, by decide⟩
          · exact ⟨5, by decide, by decide⟩
        obtain ⟨i, hi, rfl⟩ := hh
        rw [nI_add]
        exact vp_in_nI (by omega) (by omega)
      · refine l_iinc h dL_law_1938 (by decide) rfl kc_6' rfl ?_
        refine l_goto (tgt := 23) h dL_law_1941 (by decide) ?_
        have e : nI (6 * j) + 6 = nI (6 * (j + 1)) := nI_add (6 * j) 6
        have hgo := ih (j + 1) w' X' Y' (by omega) (by omega) ho' hI'
        rw [show 100 + 10 * (j + 1) = 100 + 10 * j + 10 by omega, show 3000 + 100 * (j + 1) = 3000 + 100 * j + 100 by omega, ← e] at hgo
        exact hgo
