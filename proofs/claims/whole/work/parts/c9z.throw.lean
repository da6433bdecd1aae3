theorem dL_law_1748 : decode code 1748 = .ok (.aload_n 1, 1) := by decide +kernel
theorem dL_law_1749 : decode code 1749 = .ok (.aload_n 0, 1) := by decide +kernel
theorem dL_law_1750 : decode code 1750 = .ok (.iload 4, 2) := by decide +kernel
theorem dL_law_1752 : decode code 1752 = .ok (.iconst 1, 1) := by decide +kernel
theorem dL_law_1753 : decode code 1753 = .ok (.iadd, 1) := by decide +kernel
theorem dL_law_1754 : decode code 1754 = .ok (.iaload, 1) := by decide +kernel
theorem dL_law_1755 : decode code 1755 = .ok (.aload_n 0, 1) := by decide +kernel
theorem dL_law_1756 : decode code 1756 = .ok (.iload 4, 2) := by decide +kernel
theorem dL_law_1758 : decode code 1758 = .ok (.iconst 2, 1) := by decide +kernel
theorem dL_law_1759 : decode code 1759 = .ok (.iadd, 1) := by decide +kernel
theorem dL_law_1760 : decode code 1760 = .ok (.iaload, 1) := by decide +kernel
theorem dL_law_1761 : decode code 1761 = .ok (.aload_n 3, 1) := by decide +kernel
theorem dL_law_1762 : decode code 1762 = .ok (.invokestatic 195, 3) := by decide +kernel
theorem dL_law_1765 : decode code 1765 = .ok (.istore 5, 2) := by decide +kernel
theorem dL_law_1767 : decode code 1767 = .ok (.aload_n 2, 1) := by decide +kernel
theorem dL_law_1768 : decode code 1768 = .ok (.aload_n 0, 1) := by decide +kernel
theorem dL_law_1769 : decode code 1769 = .ok (.iload 4, 2) := by decide +kernel
theorem dL_law_1771 : decode code 1771 = .ok (.iconst 1, 1) := by decide +kernel
theorem dL_law_1772 : decode code 1772 = .ok (.iadd, 1) := by decide +kernel
theorem dL_law_1773 : decode code 1773 = .ok (.iaload, 1) := by decide +kernel
theorem dL_law_1774 : decode code 1774 = .ok (.aload_n 0, 1) := by decide +kernel
theorem dL_law_1775 : decode code 1775 = .ok (.iload 4, 2) := by decide +kernel
theorem dL_law_1777 : decode code 1777 = .ok (.iconst 2, 1) := by decide +kernel
theorem dL_law_1778 : decode code 1778 = .ok (.iadd, 1) := by decide +kernel
theorem dL_law_1779 : decode code 1779 = .ok (.iaload, 1) := by decide +kernel
theorem dL_law_1780 : decode code 1780 = .ok (.invokevirtual 200, 3) := by decide +kernel
theorem dL_law_1783 : decode code 1783 = .ok (.lstore 6, 2) := by decide +kernel
theorem dL_law_1785 : decode code 1785 = .ok (.aload_n 2, 1) := by decide +kernel
theorem dL_law_1786 : decode code 1786 = .ok (.invokevirtual 201, 3) := by decide +kernel
theorem dL_law_1789 : decode code 1789 = .ok (.iload 5, 2) := by decide +kernel
theorem dL_law_1791 : decode code 1791 = .ok (.if_icmp .eq 5, 3) := by decide +kernel
theorem dL_law_1796 : decode code 1796 = .ok (.iload 5, 2) := by decide +kernel
theorem dL_law_1798 : decode code 1798 = .ok (.ifCond .ne 14, 3) := by decide +kernel
theorem dL_law_1801 : decode code 1801 = .ok (.aload_n 3, 1) := by decide +kernel
theorem dL_law_1802 : decode code 1802 = .ok (.iconst 0, 1) := by decide +kernel
theorem dL_law_1803 : decode code 1803 = .ok (.laload, 1) := by decide +kernel
theorem dL_law_1804 : decode code 1804 = .ok (.lload 6, 2) := by decide +kernel
theorem dL_law_1806 : decode code 1806 = .ok (.lcmp, 1) := by decide +kernel
theorem dL_law_1807 : decode code 1807 = .ok (.ifCond .eq 5, 3) := by decide +kernel
theorem dL_law_1812 : decode code 1812 = .ok (.goto 126, 3) := by decide +kernel
theorem dL_law_1913 : decode code 1913 = .ok (.aload_n 1, 1) := by decide +kernel
theorem dL_law_1914 : decode code 1914 = .ok (.aload_n 0, 1) := by decide +kernel
theorem dL_law_1915 : decode code 1915 = .ok (.iload 4, 2) := by decide +kernel
theorem dL_law_1917 : decode code 1917 = .ok (.iconst 1, 1) := by decide +kernel
theorem dL_law_1918 : decode code 1918 = .ok (.iadd, 1) := by decide +kernel
theorem dL_law_1919 : decode code 1919 = .ok (.iaload, 1) := by decide +kernel
theorem dL_law_1920 : decode code 1920 = .ok (.invokevirtual 213, 3) := by decide +kernel
theorem dL_law_1923 : decode code 1923 = .ok (.aload_n 2, 1) := by decide +kernel
theorem dL_law_1924 : decode code 1924 = .ok (.aload_n 0, 1) := by decide +kernel
theorem dL_law_1925 : decode code 1925 = .ok (.iload 4, 2) := by decide +kernel
theorem dL_law_1927 : decode code 1927 = .ok (.iconst 1, 1) := by decide +kernel
theorem dL_law_1928 : decode code 1928 = .ok (.iadd, 1) := by decide +kernel
theorem dL_law_1929 : decode code 1929 = .ok (.iaload, 1) := by decide +kernel
theorem dL_law_1930 : decode code 1930 = .ok (.invokevirtual 216, 3) := by decide +kernel
theorem dL_law_1933 : decode code 1933 = .ok (.if_icmp .eq 5, 3) := by decide +kernel
theorem hv_L_200 : a_okV RL M_X4_element 200 := ⟨a_in 1421 (by decide +kernel) rfl, a_in 1422 (by decide +kernel) rfl, a_in 1423 (by decide +kernel) rfl⟩
theorem hv_L_201 : a_okV RL M_X4_thrown 201 := ⟨a_in 978 (by decide +kernel) rfl, a_in 979 (by decide +kernel) rfl, a_in 980 (by decide +kernel) rfl⟩
theorem hv_L_213 : a_okV RL M_X3_toss 213 := ⟨a_in 735 (by decide +kernel) rfl, a_in 736 (by decide +kernel) rfl, a_in 737 (by decide +kernel) rfl⟩
theorem hv_L_216 : a_okV RL M_X4_toss 216 := ⟨a_in 1436 (by decide +kernel) rfl, a_in 1437 (by decide +kernel) rfl, a_in 1438 (by decide +kernel) rfl⟩
/-- what the throwing calls want of the machine -/
def lK.Exc (K : lK) : Prop := K.l.stackTraces = false ∧ xEx K.A K.s K.s.heap
abbrev lK.G (K : lK) : gK := (M_law, room_1, K.l, K.D, K.ad, K.ca, K.p, K.e, K.s, K.m, #[Value.ref K.b], K.below, K.meth, K.c, K.A, lw_Z K.below #[Value.ref K.b] K.s)
theorem lK.gok {K : lK} (h : K.Ok) : gK.Ok K.G := ⟨h.1, fun _ q => q⟩
theorem lw_of {K : lK} {t u pc : Nat} {L : List (Option Value)} {S : List Value} {w : aW} (h : Gw K.G t u pc L S w) : Lw K t u pc L S w := h
theorem gw_of {K : lK} {t u pc : Nat} {L : List (Option Value)} {S : List Value} {w : aW} (h : Lw K t u pc L S w) : Gw K.G t u pc L S w := h
theorem m_thrown (w : aW) (κ : aK) (Y : aY) : f_X4_thrown 50 (putY w κ Y) = some (Y.1 1, putY w κ Y) := rfl
theorem wd_X (w : aW) (X : aX) (Y : aY) : Wd w X Y = putX (putY w X.1 Y) X := (xy_comm w X.1 X Y).symm
theorem Wd_obj (w : aW) (X : aX) (Y : aY) : a_isO 3 (Wd w X Y) 50 := ⟨by decide, _, rfl⟩
theorem lc_toss {K : lK} (h : K.Ok) (hx : K.Exc) {t u : Nat} (hf : t + 10 ≤ 601024 ∧ u + 100 ≤ 7293034) {w : aW} {X : aX} {Y : aY} (hI : Inv X Y) {a : Int32} (hin : ∀ v : Int32, v = 1 ∨ v = 2 ∨ v = 3 ∨ v = 4 ∨ v = 5 → vp_in (a + v) K.n) (next : ∀ (X' : aX) (Y' : aY), Inv X' Y' → Lw K (t + 10) (u + 100) 1938 (lL a) [] (Wd w X' Y')) : Lw K t u 1913 (lL a) [] (Wd w X Y) := by
  refine l_aload h dL_law_1913 rfl rfl ?_
  refine l_arg h dL_law_1914 dL_law_1915 dL_law_1917 dL_law_1918 dL_law_1919 kc_1 rfl rfl (hin 1 (by decide)) ?_
  rw [wd_X]
  refine lw_of (y_callWV (K := K.G) (pc := 1920) (rv' := rvI) (c0 := 2) (S := []) (lK.gok h) hx.1 hx.2 ⟨show t + 1 ≤ 601024 by omega, show u + 6 ≤ 7293034 by omega⟩ rfl rfl ok_X3_toss ⟨Nat.le_of_ble_eq_true rfl, Nat.le_of_ble_eq_true rfl⟩ hv_L_213 dL_law_1920 ⟨by decide, _, rfl⟩ (X_toss (putY w X.1 Y) X hI.S (K.xs (a + 1).toNatClampNeg)) rfl rfl (Nat.le_of_ble_eq_true rfl) ?_)
  refine gw_of ?_
  rw [← wd_X]
  refine l_aload (pc := 1923) h dL_law_1923 rfl rfl ?_
  refine l_arg (pc := 1924) h dL_law_1924 dL_law_1925 dL_law_1927 dL_law_1928 dL_law_1929 kc_1 rfl rfl (hin 1 (by decide)) ?_
  refine l_call (pc := 1930) (rv' := rvI) (c0 := 3) (S := [.int (tossK (K.xs (a + 1).toNatClampNeg) X.2.2.2.2.1)]) h ⟨by omega, by omega⟩ rfl rfl ok_X4_toss ⟨Nat.le_of_ble_eq_true rfl, Nat.le_of_ble_eq_true rfl⟩ hv_L_216 dL_law_1930 (Wd_obj w X Y) (s_X4_toss 50 _ _) (m_toss (putX w X) X.1 hI.P (K.xs (a + 1).toNatClampNeg)) rfl rfl (Nat.le_of_ble_eq_true rfl) ?_
  exact l_wide (t' := t + 10) (u' := u + 100) (by omega) (by omega) (l_eq (pc := 1933) h dL_law_1933 (by decide) (next X (yint Y 1 0) (hI.thr 0)))
theorem elW_out (w : aW) (X : aX) (Y : aY) (f : Nat → Int64) (p : Int32 × Int64) (hw : w 74 = .inl (1, 1, .inr (.inl f))) : ∃ w' : aW, elW (putY w X.1 Y) X f p = Wd w' X Y ∧ ∃ f', w' 74 = .inl (1, 1, .inr (.inl f')) ∧ (p.1 = 0 → f' 0 = p.2) := by
  unfold elW
  by_cases h : p.1 = 0
  · rw [if_pos h, out_Y, xy_comm]
    exact ⟨outU w f p.2, rfl, vp_updL f 0 p.2, rfl, fun _ => if_pos rfl⟩
  · rw [if_neg h, xy_comm]
    exact ⟨w, rfl, f, hw, fun q => absurd q h⟩
theorem a_la_W {w : aW} {X : aX} {Y : aY} {f : Nat → Int64} (hw : w 74 = .inl (1, 1, .inr (.inl f))) : a_la (Wd w X Y) 74 = some (1, f) := by
  unfold a_la Wd
  rw [if_pos (by decide), putY_off _ _ _ (Or.inr (by decide)), putX_off _ _ (by decide), hw]
  rfl
theorem lL_sub {a k : Int32} {b : Int64} : ∀ (j : Nat) (v : Value), (lL a)[j]? = some (some v) → ([some (.ref 75), some (.ref 0), some (.ref 50), some (.ref 74), some (.int a), some (.int k), some (.long b), none] : List (Option Value))[j]? = some (some v) := by
  intro j v hj
  rcases j with _ | _ | _ | _ | _ | _ | _ | _ | j
  · exact hj
  · exact hj
  · exact hj
  · exact hj
  · exact hj
  · exact absurd (Option.some.inj (show some (none : Option Value) = some (some v) from hj)) (fun q => by cases q)
  · exact absurd (Option.some.inj (show some (none : Option Value) = some (some v) from hj)) (fun q => by cases q)
  · exact absurd (Option.some.inj (show some (none : Option Value) = some (some v) from hj)) (fun q => by cases q)
  · exact absurd hj (by simp [lL])
theorem lc_element {K : lK} (h : K.Ok) (hx : K.Exc) {t u : Nat} (hf : t + 10 ≤ 601024 ∧ u + 100 ≤ 7293034) {w : aW} (ho : ∃ f : Nat → Int64, w 74 = .inl (1, 1, .inr (.inl f))) {X : aX} {Y : aY} (hI : Inv X Y) {a : Int32} (hin : ∀ v : Int32, v = 1 ∨ v = 2 ∨ v = 3 ∨ v = 4 ∨ v = 5 → vp_in (a + v) K.n) (next : ∀ (w' : aW) (X' : aX) (Y' : aY), (∃ f : Nat → Int64, w' 74 = .inl (1, 1, .inr (.inl f))) → Inv X' Y' → Lw K (t + 10) (u + 100) 1938 (lL a) [] (Wd w' X' Y')) : Lw K t u 1748 (lL a) [] (Wd w X Y) := by
  obtain ⟨f, hw⟩ := ho
  have hk : gK.Ok K.G := lK.gok h
  obtain ⟨z1, hz1⟩ : ∃ z, K.xs (a + 1).toNatClampNeg = z := ⟨_, rfl⟩
  obtain ⟨z2, hz2⟩ : ∃ z, K.xs (a + 2).toNatClampNeg = z := ⟨_, rfl⟩
  refine l_aload h dL_law_1748 rfl rfl ?_
  refine l_arg h dL_law_1749 dL_law_1750 dL_law_1752 dL_law_1753 dL_law_1754 kc_1 rfl rfl (hin 1 (by decide)) ?_
  rw [hz1]
  refine l_arg h dL_law_1755 dL_law_1756 dL_law_1758 dL_law_1759 dL_law_1760 kc_2 rfl rfl (hin 2 (by decide)) ?_
  rw [hz2]
  refine l_aload h dL_law_1761 rfl rfl ?_
  rw [wd_X]
  have hw2 : (putY w X.1 Y) 74 = .inl (1, 1, .inr (.inl f)) := (putY_off _ _ _ (Or.inr (by decide))).trans hw
  refine lw_of (y_callWS (K := K.G) (pc := 1762) (rv' := rvI) (S := []) hk hx.1 hx.2 ⟨show t + 1 ≤ 601024 by omega, show u + 6 ≤ 7293034 by omega⟩ ok_L_element ⟨Nat.le_of_ble_eq_true rfl, Nat.le_of_ble_eq_true rfl⟩ ht_L_195 dL_law_1762 (X_Lel (putY w X.1 Y) X hI.S hw2 z1 z2) rfl rfl (Nat.le_of_ble_eq_true rfl) ?_)
  obtain ⟨w', e, f', hf', hv⟩ := elW_out w X Y f (elemK z1 z2 X.2.2.2.2.1) hw
  show Gw K.G (t + 1) (u + 6) 1765 (lL a) [.int (elemK z1 z2 X.2.2.2.2.1).1] (elW (putY w X.1 Y) X f (elemK z1 z2 X.2.2.2.2.1))
  rw [e]
  have hm := m_element (putX w' X) X.1 hI.P z1 z2
  revert hv hm
  generalize elemK z1 z2 X.2.2.2.2.1 = p
  intro hv hm
  refine g_istore (L' := [some (.ref 75), some (.ref 0), some (.ref 50), some (.ref 74), some (.int a), some (.int p.1), none, none]) hk dL_law_1765 (show 5 < 8 by decide) rfl ?_
  refine gw_of ?_
  refine l_aload (pc := 1767) h dL_law_1767 rfl rfl ?_
  refine l_arg (pc := 1768) h dL_law_1768 dL_law_1769 dL_law_1771 dL_law_1772 dL_law_1773 kc_1 rfl rfl (hin 1 (by decide)) ?_
  rw [hz1]
  refine l_arg (pc := 1774) h dL_law_1774 dL_law_1775 dL_law_1777 dL_law_1778 dL_law_1779 kc_2 rfl rfl (hin 2 (by decide)) ?_
  rw [hz2]
  refine l_call (pc := 1780) (rv' := rvL) (c0 := 3) (S := []) h ⟨by omega, by omega⟩ rfl rfl ok_X4_element ⟨Nat.le_of_ble_eq_true rfl, Nat.le_of_ble_eq_true rfl⟩ hv_L_200 dL_law_1780 (Wd_obj w' X Y) (s_X4_element 50 _ _ _) hm rfl rfl (Nat.le_of_ble_eq_true rfl) ?_
  refine lw_of ?_
  refine g_lstore (pc := 1783) (L' := [some (.ref 75), some (.ref 0), some (.ref 50), some (.ref 74), some (.int a), some (.int p.1), some (.long p.2), none]) hk dL_law_1783 (show 7 < 8 by decide) rfl ?_
  refine gw_of ?_
  refine l_aload (pc := 1785) h dL_law_1785 rfl rfl ?_
  have ht : f_X4_thrown 50 (putY (putX w' X) X.1 (yint Y 1 p.1)) = some (p.1, putY (putX w' X) X.1 (yint Y 1 p.1)) := m_thrown _ _ _
  refine l_call (pc := 1786) (rv' := rvI) (c0 := 3) (S := []) h ⟨by omega, by omega⟩ rfl rfl ok_X4_thrown ⟨Nat.le_of_ble_eq_true rfl, Nat.le_of_ble_eq_true rfl⟩ hv_L_201 dL_law_1786 (Wd_obj w' X (yint Y 1 p.1)) (s_X4_thrown 50 _) ht rfl rfl (Nat.le_of_ble_eq_true rfl) ?_
  refine l_iload (pc := 1789) h dL_law_1789 rfl ?_
  refine l_eq (pc := 1791) (tgt := 1796) h dL_law_1791 (by decide) ?_
  refine l_iload (pc := 1796) h dL_law_1796 rfl ?_
  have hend : Gw K.G (t + 1) (u + 6) 1812 [some (.ref 75), some (.ref 0), some (.ref 50), some (.ref 74), some (.int a), some (.int p.1), some (.long p.2), none] [] (Wd w' X (yint Y 1 p.1)) := by
    refine g_goto (tgt := 1938) hk dL_law_1812 (by decide) ?_
    refine g_sub lL_sub ?_
    exact g_wide (t' := t + 10) (u' := u + 100) (by omega) (by omega) (gw_of (next w' X (yint Y 1 p.1) ⟨f', hf'⟩ (hI.thr p.1)))
  refine lw_of ?_
  by_cases h0 : p.1 = 0
  · refine g_if_neF (pc := 1798) (tgt := 1812) hk dL_law_1798 (by decide) (fun q => q h0) ?_
    refine g_aload_n (pc := 1801) hk dL_law_1801 rfl rfl ?_
    refine g_iconst (pc := 1802) hk dL_law_1802 kc_0 ?_
    refine g_lald (pc := 1803) (a := (1, f')) hk dL_law_1803 (a_la_W hf') (show ¬ ((0 : Int32) < 0 ∨ 1 ≤ (0 : Int32).toNatClampNeg) by decide) ?_
    have e3 : (1, f').2 (0 : Int32).toNatClampNeg = p.2 := hv h0
    rw [e3]
    refine gw_of ?_
    refine lw_of ?_
    refine g_lload (pc := 1804) hk dL_law_1804 rfl ?_
    exact gw_of (l_leq (pc := 1806) (tgt := 1812) h dL_law_1806 dL_law_1807 (by decide) (lw_of hend))
  · exact g_if_neT (pc := 1798) (tgt := 1812) hk dL_law_1798 (by decide) h0 hend
