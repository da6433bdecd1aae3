theorem dL_law_771 : decode code 771 = .ok (.aload_n 1, 1) := by decide +kernel
theorem dL_law_772 : decode code 772 = .ok (.aload_n 0, 1) := by decide +kernel
theorem dL_law_773 : decode code 773 = .ok (.iload 4, 2) := by decide +kernel
theorem dL_law_775 : decode code 775 = .ok (.iconst 1, 1) := by decide +kernel
theorem dL_law_776 : decode code 776 = .ok (.iadd, 1) := by decide +kernel
theorem dL_law_777 : decode code 777 = .ok (.iaload, 1) := by decide +kernel
theorem dL_law_778 : decode code 778 = .ok (.invokevirtual 84, 3) := by decide +kernel
theorem dL_law_781 : decode code 781 = .ok (.aload_n 2, 1) := by decide +kernel
theorem dL_law_782 : decode code 782 = .ok (.aload_n 0, 1) := by decide +kernel
theorem dL_law_783 : decode code 783 = .ok (.iload 4, 2) := by decide +kernel
theorem dL_law_785 : decode code 785 = .ok (.iconst 1, 1) := by decide +kernel
theorem dL_law_786 : decode code 786 = .ok (.iadd, 1) := by decide +kernel
theorem dL_law_787 : decode code 787 = .ok (.iaload, 1) := by decide +kernel
theorem dL_law_788 : decode code 788 = .ok (.invokevirtual 87, 3) := by decide +kernel
theorem dL_law_791 : decode code 791 = .ok (.if_icmp .eq 1147, 3) := by decide +kernel
theorem hv_L_84 : a_okV RL M_X3_ruined 84 := ⟨a_in 484 (by decide +kernel) rfl, a_in 485 (by decide +kernel) rfl, a_in 486 (by decide +kernel) rfl⟩
theorem hv_L_87 : a_okV RL M_X4_ruined 87 := ⟨a_in 1222 (by decide +kernel) rfl, a_in 1223 (by decide +kernel) rfl, a_in 1224 (by decide +kernel) rfl⟩
theorem lc_ruined {K : lK} (h : K.Ok) {t u : Nat} (hf : t ≤ 601024 ∧ u ≤ 7293034) {w : aW} {X : aX} {Y : aY} (hI : Inv X Y) {a : Int32} (hin : ∀ v : Int32, v = 1 ∨ v = 2 ∨ v = 3 ∨ v = 4 ∨ v = 5 → vp_in (a + v) K.n) (next : ∀ (X' : aX) (Y' : aY), Inv X' Y' → Lw K t u 1938 (lL a) [] (Wd w X' Y')) : Lw K t u 771 (lL a) [] (Wd w X Y) := by
  obtain ⟨r, w1, X', Y', hO, h3, h4, hI'⟩ := st_ruined hI w (K.xs (a + 1).toNatClampNeg)
  refine l_aload h dL_law_771 rfl rfl ?_
  refine l_arg h dL_law_772 dL_law_773 dL_law_775 dL_law_776 dL_law_777 kc_1 rfl rfl (hin 1 (by decide)) ?_
  refine l_call (rv' := rvI) (c0 := 2) (S := []) h hf rfl rfl ok_X3_ruined ⟨Nat.le_of_ble_eq_true rfl, Nat.le_of_ble_eq_true rfl⟩ hv_L_84 dL_law_778 (l_obj w X Y) (s_X3_ruined 0 _ _) h3 rfl rfl (Nat.le_of_ble_eq_true rfl) ?_
  refine l_aload h dL_law_781 rfl rfl ?_
  refine l_arg h dL_law_782 dL_law_783 dL_law_785 dL_law_786 dL_law_787 kc_1 rfl rfl (hin 1 (by decide)) ?_
  refine l_call (rv' := rvI) (c0 := 3) (S := [.int r]) h hf rfl rfl ok_X4_ruined ⟨Nat.le_of_ble_eq_true rfl, Nat.le_of_ble_eq_true rfl⟩ hv_L_87 dL_law_788 hO (s_X4_ruined 50 _ _) h4 rfl rfl (Nat.le_of_ble_eq_true rfl) ?_
  exact l_eq h dL_law_791 (by decide) (next X' Y' hI')
theorem dL_law_796 : decode code 796 = .ok (.aload_n 1, 1) := by decide +kernel
theorem dL_law_797 : decode code 797 = .ok (.invokevirtual 88, 3) := by decide +kernel
theorem dL_law_800 : decode code 800 = .ok (.aload_n 2, 1) := by decide +kernel
theorem dL_law_801 : decode code 801 = .ok (.invokevirtual 92, 3) := by decide +kernel
theorem dL_law_804 : decode code 804 = .ok (.if_icmp .eq 1134, 3) := by decide +kernel
theorem hv_L_88 : a_okV RL M_X3_still 88 := ⟨a_in 489 (by decide +kernel) rfl, a_in 490 (by decide +kernel) rfl, a_in 491 (by decide +kernel) rfl⟩
theorem hv_L_92 : a_okV RL M_X4_still 92 := ⟨a_in 1226 (by decide +kernel) rfl, a_in 1227 (by decide +kernel) rfl, a_in 1228 (by decide +kernel) rfl⟩
theorem lc_still {K : lK} (h : K.Ok) {t u : Nat} (hf : t ≤ 601024 ∧ u ≤ 7293034) {w : aW} {X : aX} {Y : aY} (hI : Inv X Y) {a : Int32} (hin : ∀ v : Int32, v = 1 ∨ v = 2 ∨ v = 3 ∨ v = 4 ∨ v = 5 → vp_in (a + v) K.n) (next : ∀ (X' : aX) (Y' : aY), Inv X' Y' → Lw K t u 1938 (lL a) [] (Wd w X' Y')) : Lw K t u 796 (lL a) [] (Wd w X Y) := by
  obtain ⟨r, w1, X', Y', hO, h3, h4, hI'⟩ := st_still hI w
  refine l_aload h dL_law_796 rfl rfl ?_
  refine l_call (rv' := rvI) (c0 := 2) (S := []) h hf rfl rfl ok_X3_still ⟨Nat.le_of_ble_eq_true rfl, Nat.le_of_ble_eq_true rfl⟩ hv_L_88 dL_law_797 (l_obj w X Y) (s_X3_still 0 _) h3 rfl rfl (Nat.le_of_ble_eq_true rfl) ?_
  refine l_aload h dL_law_800 rfl rfl ?_
  refine l_call (rv' := rvI) (c0 := 3) (S := [.int r]) h hf rfl rfl ok_X4_still ⟨Nat.le_of_ble_eq_true rfl, Nat.le_of_ble_eq_true rfl⟩ hv_L_92 dL_law_801 hO (s_X4_still 50 _) h4 rfl rfl (Nat.le_of_ble_eq_true rfl) ?_
  exact l_eq h dL_law_804 (by decide) (next X' Y' hI')
theorem dL_law_809 : decode code 809 = .ok (.aload_n 1, 1) := by decide +kernel
theorem dL_law_810 : decode code 810 = .ok (.aload_n 0, 1) := by decide +kernel
theorem dL_law_811 : decode code 811 = .ok (.iload 4, 2) := by decide +kernel
theorem dL_law_813 : decode code 813 = .ok (.iconst 1, 1) := by decide +kernel
theorem dL_law_814 : decode code 814 = .ok (.iadd, 1) := by decide +kernel
theorem dL_law_815 : decode code 815 = .ok (.iaload, 1) := by decide +kernel
theorem dL_law_816 : decode code 816 = .ok (.invokevirtual 93, 3) := by decide +kernel
theorem dL_law_819 : decode code 819 = .ok (.aload_n 2, 1) := by decide +kernel
theorem dL_law_820 : decode code 820 = .ok (.aload_n 0, 1) := by decide +kernel
theorem dL_law_821 : decode code 821 = .ok (.iload 4, 2) := by decide +kernel
theorem dL_law_823 : decode code 823 = .ok (.iconst 1, 1) := by decide +kernel
theorem dL_law_824 : decode code 824 = .ok (.iadd, 1) := by decide +kernel
theorem dL_law_825 : decode code 825 = .ok (.iaload, 1) := by decide +kernel
theorem dL_law_826 : decode code 826 = .ok (.invokevirtual 96, 3) := by decide +kernel
theorem dL_law_829 : decode code 829 = .ok (.if_icmp .eq 1109, 3) := by decide +kernel
theorem hv_L_93 : a_okV RL M_X3_next 93 := ⟨a_in 493 (by decide +kernel) rfl, a_in 494 (by decide +kernel) rfl, a_in 495 (by decide +kernel) rfl⟩
theorem hv_L_96 : a_okV RL M_X4_next 96 := ⟨a_in 1238 (by decide +kernel) rfl, a_in 1239 (by decide +kernel) rfl, a_in 1240 (by decide +kernel) rfl⟩
theorem lc_next {K : lK} (h : K.Ok) {t u : Nat} (hf : t ≤ 601024 ∧ u ≤ 7293034) {w : aW} {X : aX} {Y : aY} (hI : Inv X Y) {a : Int32} (hin : ∀ v : Int32, v = 1 ∨ v = 2 ∨ v = 3 ∨ v = 4 ∨ v = 5 → vp_in (a + v) K.n) (next : ∀ (X' : aX) (Y' : aY), Inv X' Y' → Lw K t u 1938 (lL a) [] (Wd w X' Y')) : Lw K t u 809 (lL a) [] (Wd w X Y) := by
  obtain ⟨r, w1, X', Y', hO, h3, h4, hI'⟩ := st_next hI w (K.xs (a + 1).toNatClampNeg)
  refine l_aload h dL_law_809 rfl rfl ?_
  refine l_arg h dL_law_810 dL_law_811 dL_law_813 dL_law_814 dL_law_815 kc_1 rfl rfl (hin 1 (by decide)) ?_
  refine l_call (rv' := rvI) (c0 := 2) (S := []) h hf rfl rfl ok_X3_next ⟨Nat.le_of_ble_eq_true rfl, Nat.le_of_ble_eq_true rfl⟩ hv_L_93 dL_law_816 (l_obj w X Y) (s_X3_next 0 _ _) h3 rfl rfl (Nat.le_of_ble_eq_true rfl) ?_
  refine l_aload h dL_law_819 rfl rfl ?_
  refine l_arg h dL_law_820 dL_law_821 dL_law_823 dL_law_824 dL_law_825 kc_1 rfl rfl (hin 1 (by decide)) ?_
  refine l_call (rv' := rvI) (c0 := 3) (S := [.int r]) h hf rfl rfl ok_X4_next ⟨Nat.le_of_ble_eq_true rfl, Nat.le_of_ble_eq_true rfl⟩ hv_L_96 dL_law_826 hO (s_X4_next 50 _ _) h4 rfl rfl (Nat.le_of_ble_eq_true rfl) ?_
  exact l_eq h dL_law_829 (by decide) (next X' Y' hI')
theorem dL_law_834 : decode code 834 = .ok (.aload_n 1, 1) := by decide +kernel
theorem dL_law_835 : decode code 835 = .ok (.aload_n 0, 1) := by decide +kernel
theorem dL_law_836 : decode code 836 = .ok (.iload 4, 2) := by decide +kernel
theorem dL_law_838 : decode code 838 = .ok (.iconst 1, 1) := by decide +kernel
theorem dL_law_839 : decode code 839 = .ok (.iadd, 1) := by decide +kernel
theorem dL_law_840 : decode code 840 = .ok (.iaload, 1) := by decide +kernel
theorem dL_law_841 : decode code 841 = .ok (.aload_n 0, 1) := by decide +kernel
theorem dL_law_842 : decode code 842 = .ok (.iload 4, 2) := by decide +kernel
theorem dL_law_844 : decode code 844 = .ok (.iconst 2, 1) := by decide +kernel
theorem dL_law_845 : decode code 845 = .ok (.iadd, 1) := by decide +kernel
theorem dL_law_846 : decode code 846 = .ok (.iaload, 1) := by decide +kernel
theorem dL_law_847 : decode code 847 = .ok (.aload_n 0, 1) := by decide +kernel
theorem dL_law_848 : decode code 848 = .ok (.iload 4, 2) := by decide +kernel
theorem dL_law_850 : decode code 850 = .ok (.iconst 3, 1) := by decide +kernel
theorem dL_law_851 : decode code 851 = .ok (.iadd, 1) := by decide +kernel
theorem dL_law_852 : decode code 852 = .ok (.iaload, 1) := by decide +kernel
theorem dL_law_853 : decode code 853 = .ok (.invokevirtual 97, 3) := by decide +kernel
theorem dL_law_856 : decode code 856 = .ok (.aload_n 2, 1) := by decide +kernel
theorem dL_law_857 : decode code 857 = .ok (.aload_n 0, 1) := by decide +kernel
theorem dL_law_858 : decode code 858 = .ok (.iload 4, 2) := by decide +kernel
theorem dL_law_860 : decode code 860 = .ok (.iconst 1, 1) := by decide +kernel
theorem dL_law_861 : decode code 861 = .ok (.iadd, 1) := by decide +kernel
theorem dL_law_862 : decode code 862 = .ok (.iaload, 1) := by decide +kernel
theorem dL_law_863 : decode code 863 = .ok (.aload_n 0, 1) := by decide +kernel
theorem dL_law_864 : decode code 864 = .ok (.iload 4, 2) := by decide +kernel
theorem dL_law_866 : decode code 866 = .ok (.iconst 2, 1) := by decide +kernel
theorem dL_law_867 : decode code 867 = .ok (.iadd, 1) := by decide +kernel
theorem dL_law_868 : decode code 868 = .ok (.iaload, 1) := by decide +kernel
theorem dL_law_869 : decode code 869 = .ok (.aload_n 0, 1) := by decide +kernel
theorem dL_law_870 : decode code 870 = .ok (.iload 4, 2) := by decide +kernel
theorem dL_law_872 : decode code 872 = .ok (.iconst 3, 1) := by decide +kernel
theorem dL_law_873 : decode code 873 = .ok (.iadd, 1) := by decide +kernel
theorem dL_law_874 : decode code 874 = .ok (.iaload, 1) := by decide +kernel
theorem dL_law_875 : decode code 875 = .ok (.invokevirtual 100, 3) := by decide +kernel
theorem dL_law_878 : decode code 878 = .ok (.if_icmp .eq 1060, 3) := by decide +kernel
theorem hv_L_97 : a_okV RL M_X3_name 97 := ⟨a_in 501 (by decide +kernel) rfl, a_in 502 (by decide +kernel) rfl, a_in 503 (by decide +kernel) rfl⟩
theorem hv_L_100 : a_okV RL M_X4_name 100 := ⟨a_in 1250 (by decide +kernel) rfl, a_in 1251 (by decide +kernel) rfl, a_in 1252 (by decide +kernel) rfl⟩
theorem lc_name {K : lK} (h : K.Ok) {t u : Nat} (hf : t ≤ 601024 ∧ u ≤ 7293034) {w : aW} {X : aX} {Y : aY} (hI : Inv X Y) {a : Int32} (hin : ∀ v : Int32, v = 1 ∨ v = 2 ∨ v = 3 ∨ v = 4 ∨ v = 5 → vp_in (a + v) K.n) (next : ∀ (X' : aX) (Y' : aY), Inv X' Y' → Lw K t u 1938 (lL a) [] (Wd w X' Y')) : Lw K t u 834 (lL a) [] (Wd w X Y) := by
  obtain ⟨r, w1, X', Y', hO, h3, h4, hI'⟩ := st_name hI w (K.xs (a + 1).toNatClampNeg) (K.xs (a + 2).toNatClampNeg) (K.xs (a + 3).toNatClampNeg)
  refine l_aload h dL_law_834 rfl rfl ?_
  refine l_arg h dL_law_835 dL_law_836 dL_law_838 dL_law_839 dL_law_840 kc_1 rfl rfl (hin 1 (by decide)) ?_
  refine l_arg h dL_law_841 dL_law_842 dL_law_844 dL_law_845 dL_law_846 kc_2 rfl rfl (hin 2 (by decide)) ?_
  refine l_arg h dL_law_847 dL_law_848 dL_law_850 dL_law_851 dL_law_852 kc_3 rfl rfl (hin 3 (by decide)) ?_
  refine l_call (rv' := rvI) (c0 := 2) (S := []) h hf rfl rfl ok_X3_name ⟨Nat.le_of_ble_eq_true rfl, Nat.le_of_ble_eq_true rfl⟩ hv_L_97 dL_law_853 (l_obj w X Y) (s_X3_name 0 _ _ _ _) h3 rfl rfl (Nat.le_of_ble_eq_true rfl) ?_
  refine l_aload h dL_law_856 rfl rfl ?_
  refine l_arg h dL_law_857 dL_law_858 dL_law_860 dL_law_861 dL_law_862 kc_1 rfl rfl (hin 1 (by decide)) ?_
  refine l_arg h dL_law_863 dL_law_864 dL_law_866 dL_law_867 dL_law_868 kc_2 rfl rfl (hin 2 (by decide)) ?_
  refine l_arg h dL_law_869 dL_law_870 dL_law_872 dL_law_873 dL_law_874 kc_3 rfl rfl (hin 3 (by decide)) ?_
  refine l_call (rv' := rvI) (c0 := 3) (S := [.int r]) h hf rfl rfl ok_X4_name ⟨Nat.le_of_ble_eq_true rfl, Nat.le_of_ble_eq_true rfl⟩ hv_L_100 dL_law_875 hO (s_X4_name 50 _ _ _ _) h4 rfl rfl (Nat.le_of_ble_eq_true rfl) ?_
  exact l_eq h dL_law_878 (by decide) (next X' Y' hI')
theorem dL_law_883 : decode code 883 = .ok (.aload_n 1, 1) := by decide +kernel
theorem dL_law_884 : decode code 884 = .ok (.aload_n 0, 1) := by decide +kernel
theorem dL_law_885 : decode code 885 = .ok (.iload 4, 2) := by decide +kernel
theorem dL_law_887 : decode code 887 = .ok (.iconst 1, 1) := by decide +kernel
theorem dL_law_888 : decode code 888 = .ok (.iadd, 1) := by decide +kernel
theorem dL_law_889 : decode code 889 = .ok (.iaload, 1) := by decide +kernel
theorem dL_law_890 : decode code 890 = .ok (.aload_n 0, 1) := by decide +kernel
theorem dL_law_891 : decode code 891 = .ok (.iload 4, 2) := by decide +kernel
theorem dL_law_893 : decode code 893 = .ok (.iconst 2, 1) := by decide +kernel
theorem dL_law_894 : decode code 894 = .ok (.iadd, 1) := by decide +kernel
theorem dL_law_895 : decode code 895 = .ok (.iaload, 1) := by decide +kernel
theorem dL_law_896 : decode code 896 = .ok (.invokevirtual 101, 3) := by decide +kernel
theorem dL_law_899 : decode code 899 = .ok (.aload_n 2, 1) := by decide +kernel
theorem dL_law_900 : decode code 900 = .ok (.aload_n 0, 1) := by decide +kernel
theorem dL_law_901 : decode code 901 = .ok (.iload 4, 2) := by decide +kernel
theorem dL_law_903 : decode code 903 = .ok (.iconst 1, 1) := by decide +kernel
theorem dL_law_904 : decode code 904 = .ok (.iadd, 1) := by decide +kernel
theorem dL_law_905 : decode code 905 = .ok (.iaload, 1) := by decide +kernel
theorem dL_law_906 : decode code 906 = .ok (.aload_n 0, 1) := by decide +kernel
theorem dL_law_907 : decode code 907 = .ok (.iload 4, 2) := by decide +kernel
theorem dL_law_909 : decode code 909 = .ok (.iconst 2, 1) := by decide +kernel
theorem dL_law_910 : decode code 910 = .ok (.iadd, 1) := by decide +kernel
theorem dL_law_911 : decode code 911 = .ok (.iaload, 1) := by decide +kernel
theorem dL_law_912 : decode code 912 = .ok (.invokevirtual 104, 3) := by decide +kernel
theorem dL_law_915 : decode code 915 = .ok (.if_icmp .eq 1023, 3) := by decide +kernel
theorem hv_L_101 : a_okV RL M_X3_cover 101 := ⟨a_in 514 (by decide +kernel) rfl, a_in 515 (by decide +kernel) rfl, a_in 516 (by decide +kernel) rfl⟩
theorem hv_L_104 : a_okV RL M_X4_cover 104 := ⟨a_in 1259 (by decide +kernel) rfl, a_in 1260 (by decide +kernel) rfl, a_in 1261 (by decide +kernel) rfl⟩
theorem lc_cover {K : lK} (h : K.Ok) {t u : Nat} (hf : t ≤ 601024 ∧ u ≤ 7293034) {w : aW} {X : aX} {Y : aY} (hI : Inv X Y) {a : Int32} (hin : ∀ v : Int32, v = 1 ∨ v = 2 ∨ v = 3 ∨ v = 4 ∨ v = 5 → vp_in (a + v) K.n) (next : ∀ (X' : aX) (Y' : aY), Inv X' Y' → Lw K t u 1938 (lL a) [] (Wd w X' Y')) : Lw K t u 883 (lL a) [] (Wd w X Y) := by
  obtain ⟨r, w1, X', Y', hO, h3, h4, hI'⟩ := st_cover hI w (K.xs (a + 1).toNatClampNeg) (K.xs (a + 2).toNatClampNeg)
  refine l_aload h dL_law_883 rfl rfl ?_
  refine l_arg h dL_law_884 dL_law_885 dL_law_887 dL_law_888 dL_law_889 kc_1 rfl rfl (hin 1 (by decide)) ?_
  refine l_arg h dL_law_890 dL_law_891 dL_law_893 dL_law_894 dL_law_895 kc_2 rfl rfl (hin 2 (by decide)) ?_
  refine l_call (rv' := rvI) (c0 := 2) (S := []) h hf rfl rfl ok_X3_cover ⟨Nat.le_of_ble_eq_true rfl, Nat.le_of_ble_eq_true rfl⟩ hv_L_101 dL_law_896 (l_obj w X Y) (s_X3_cover 0 _ _ _) h3 rfl rfl (Nat.le_of_ble_eq_true rfl) ?_
  refine l_aload h dL_law_899 rfl rfl ?_
  refine l_arg h dL_law_900 dL_law_901 dL_law_903 dL_law_904 dL_law_905 kc_1 rfl rfl (hin 1 (by decide)) ?_
  refine l_arg h dL_law_906 dL_law_907 dL_law_909 dL_law_910 dL_law_911 kc_2 rfl rfl (hin 2 (by decide)) ?_
  refine l_call (rv' := rvI) (c0 := 3) (S := [.int r]) h hf rfl rfl ok_X4_cover ⟨Nat.le_of_ble_eq_true rfl, Nat.le_of_ble_eq_true rfl⟩ hv_L_104 dL_law_912 hO (s_X4_cover 50 _ _ _) h4 rfl rfl (Nat.le_of_ble_eq_true rfl) ?_
  exact l_eq h dL_law_915 (by decide) (next X' Y' hI')
