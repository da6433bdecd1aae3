theorem dL_law_920 : decode code 920 = .ok (.aload_n 1, 1) := by decide +kernel
theorem dL_law_921 : decode code 921 = .ok (.aload_n 0, 1) := by decide +kernel
theorem dL_law_922 : decode code 922 = .ok (.iload 4, 2) := by decide +kernel
theorem dL_law_924 : decode code 924 = .ok (.iconst 1, 1) := by decide +kernel
theorem dL_law_925 : decode code 925 = .ok (.iadd, 1) := by decide +kernel
theorem dL_law_926 : decode code 926 = .ok (.iaload, 1) := by decide +kernel
theorem dL_law_927 : decode code 927 = .ok (.aload_n 0, 1) := by decide +kernel
theorem dL_law_928 : decode code 928 = .ok (.iload 4, 2) := by decide +kernel
theorem dL_law_930 : decode code 930 = .ok (.iconst 2, 1) := by decide +kernel
theorem dL_law_931 : decode code 931 = .ok (.iadd, 1) := by decide +kernel
theorem dL_law_932 : decode code 932 = .ok (.iaload, 1) := by decide +kernel
theorem dL_law_933 : decode code 933 = .ok (.invokevirtual 105, 3) := by decide +kernel
theorem dL_law_936 : decode code 936 = .ok (.aload_n 2, 1) := by decide +kernel
theorem dL_law_937 : decode code 937 = .ok (.aload_n 0, 1) := by decide +kernel
theorem dL_law_938 : decode code 938 = .ok (.iload 4, 2) := by decide +kernel
theorem dL_law_940 : decode code 940 = .ok (.iconst 1, 1) := by decide +kernel
theorem dL_law_941 : decode code 941 = .ok (.iadd, 1) := by decide +kernel
theorem dL_law_942 : decode code 942 = .ok (.iaload, 1) := by decide +kernel
theorem dL_law_943 : decode code 943 = .ok (.aload_n 0, 1) := by decide +kernel
theorem dL_law_944 : decode code 944 = .ok (.iload 4, 2) := by decide +kernel
theorem dL_law_946 : decode code 946 = .ok (.iconst 2, 1) := by decide +kernel
theorem dL_law_947 : decode code 947 = .ok (.iadd, 1) := by decide +kernel
theorem dL_law_948 : decode code 948 = .ok (.iaload, 1) := by decide +kernel
theorem dL_law_949 : decode code 949 = .ok (.invokevirtual 108, 3) := by decide +kernel
theorem dL_law_952 : decode code 952 = .ok (.if_icmp .eq 986, 3) := by decide +kernel
theorem hv_L_105 : a_okV RL M_X3_letGo 105 := ⟨a_in 529 (by decide +kernel) rfl, a_in 530 (by decide +kernel) rfl, a_in 531 (by decide +kernel) rfl⟩
theorem hv_L_108 : a_okV RL M_X4_letGo 108 := ⟨a_in 1276 (by decide +kernel) rfl, a_in 1277 (by decide +kernel) rfl, a_in 1278 (by decide +kernel) rfl⟩
theorem lc_letGo {K : lK} (h : K.Ok) {t u : Nat} (hf : t ≤ 601024 ∧ u ≤ 7293034) {w : aW} {X : aX} {Y : aY} (hI : Inv X Y) {a : Int32} (hin : ∀ v : Int32, v = 1 ∨ v = 2 ∨ v = 3 ∨ v = 4 ∨ v = 5 → vp_in (a + v) K.n) (next : ∀ (X' : aX) (Y' : aY), Inv X' Y' → Lw K t u 1938 (lL a) [] (Wd w X' Y')) : Lw K t u 920 (lL a) [] (Wd w X Y) := by
  obtain ⟨r, w1, X', Y', hO, h3, h4, hI'⟩ := st_letGo hI w (K.xs (a + 1).toNatClampNeg) (K.xs (a + 2).toNatClampNeg)
  refine l_aload h dL_law_920 rfl rfl ?_
  refine l_arg h dL_law_921 dL_law_922 dL_law_924 dL_law_925 dL_law_926 kc_1 rfl rfl (hin 1 (by decide)) ?_
  refine l_arg h dL_law_927 dL_law_928 dL_law_930 dL_law_931 dL_law_932 kc_2 rfl rfl (hin 2 (by decide)) ?_
  refine l_call (rv' := rvI) (c0 := 2) (S := []) h hf rfl rfl ok_X3_letGo ⟨Nat.le_of_ble_eq_true rfl, Nat.le_of_ble_eq_true rfl⟩ hv_L_105 dL_law_933 (l_obj w X Y) (s_X3_letGo 0 _ _ _) h3 rfl rfl (Nat.le_of_ble_eq_true rfl) ?_
  refine l_aload h dL_law_936 rfl rfl ?_
  refine l_arg h dL_law_937 dL_law_938 dL_law_940 dL_law_941 dL_law_942 kc_1 rfl rfl (hin 1 (by decide)) ?_
  refine l_arg h dL_law_943 dL_law_944 dL_law_946 dL_law_947 dL_law_948 kc_2 rfl rfl (hin 2 (by decide)) ?_
  refine l_call (rv' := rvI) (c0 := 3) (S := [.int r]) h hf rfl rfl ok_X4_letGo ⟨Nat.le_of_ble_eq_true rfl, Nat.le_of_ble_eq_true rfl⟩ hv_L_108 dL_law_949 hO (s_X4_letGo 50 _ _ _) h4 rfl rfl (Nat.le_of_ble_eq_true rfl) ?_
  exact l_eq h dL_law_952 (by decide) (next X' Y' hI')
theorem dL_law_957 : decode code 957 = .ok (.aload_n 1, 1) := by decide +kernel
theorem dL_law_958 : decode code 958 = .ok (.aload_n 0, 1) := by decide +kernel
theorem dL_law_959 : decode code 959 = .ok (.iload 4, 2) := by decide +kernel
theorem dL_law_961 : decode code 961 = .ok (.iconst 1, 1) := by decide +kernel
theorem dL_law_962 : decode code 962 = .ok (.iadd, 1) := by decide +kernel
theorem dL_law_963 : decode code 963 = .ok (.iaload, 1) := by decide +kernel
theorem dL_law_964 : decode code 964 = .ok (.aload_n 0, 1) := by decide +kernel
theorem dL_law_965 : decode code 965 = .ok (.iload 4, 2) := by decide +kernel
theorem dL_law_967 : decode code 967 = .ok (.iconst 2, 1) := by decide +kernel
theorem dL_law_968 : decode code 968 = .ok (.iadd, 1) := by decide +kernel
theorem dL_law_969 : decode code 969 = .ok (.iaload, 1) := by decide +kernel
theorem dL_law_970 : decode code 970 = .ok (.aload_n 0, 1) := by decide +kernel
theorem dL_law_971 : decode code 971 = .ok (.iload 4, 2) := by decide +kernel
theorem dL_law_973 : decode code 973 = .ok (.iconst 3, 1) := by decide +kernel
theorem dL_law_974 : decode code 974 = .ok (.iadd, 1) := by decide +kernel
theorem dL_law_975 : decode code 975 = .ok (.iaload, 1) := by decide +kernel
theorem dL_law_976 : decode code 976 = .ok (.invokevirtual 109, 3) := by decide +kernel
theorem dL_law_979 : decode code 979 = .ok (.aload_n 2, 1) := by decide +kernel
theorem dL_law_980 : decode code 980 = .ok (.aload_n 0, 1) := by decide +kernel
theorem dL_law_981 : decode code 981 = .ok (.iload 4, 2) := by decide +kernel
theorem dL_law_983 : decode code 983 = .ok (.iconst 1, 1) := by decide +kernel
theorem dL_law_984 : decode code 984 = .ok (.iadd, 1) := by decide +kernel
theorem dL_law_985 : decode code 985 = .ok (.iaload, 1) := by decide +kernel
theorem dL_law_986 : decode code 986 = .ok (.aload_n 0, 1) := by decide +kernel
theorem dL_law_987 : decode code 987 = .ok (.iload 4, 2) := by decide +kernel
theorem dL_law_989 : decode code 989 = .ok (.iconst 2, 1) := by decide +kernel
theorem dL_law_990 : decode code 990 = .ok (.iadd, 1) := by decide +kernel
theorem dL_law_991 : decode code 991 = .ok (.iaload, 1) := by decide +kernel
theorem dL_law_992 : decode code 992 = .ok (.aload_n 0, 1) := by decide +kernel
theorem dL_law_993 : decode code 993 = .ok (.iload 4, 2) := by decide +kernel
theorem dL_law_995 : decode code 995 = .ok (.iconst 3, 1) := by decide +kernel
theorem dL_law_996 : decode code 996 = .ok (.iadd, 1) := by decide +kernel
theorem dL_law_997 : decode code 997 = .ok (.iaload, 1) := by decide +kernel
theorem dL_law_998 : decode code 998 = .ok (.invokevirtual 112, 3) := by decide +kernel
theorem dL_law_1001 : decode code 1001 = .ok (.if_icmp .eq 937, 3) := by decide +kernel
theorem hv_L_109 : a_okV RL M_X3_stand 109 := ⟨a_in 537 (by decide +kernel) rfl, a_in 538 (by decide +kernel) rfl, a_in 539 (by decide +kernel) rfl⟩
theorem hv_L_112 : a_okV RL M_X4_stand 112 := ⟨a_in 1281 (by decide +kernel) rfl, a_in 1282 (by decide +kernel) rfl, a_in 1283 (by decide +kernel) rfl⟩
theorem lc_stand {K : lK} (h : K.Ok) {t u : Nat} (hf : t ≤ 601024 ∧ u ≤ 7293034) {w : aW} {X : aX} {Y : aY} (hI : Inv X Y) {a : Int32} (hin : ∀ v : Int32, v = 1 ∨ v = 2 ∨ v = 3 ∨ v = 4 ∨ v = 5 → vp_in (a + v) K.n) (next : ∀ (X' : aX) (Y' : aY), Inv X' Y' → Lw K t u 1938 (lL a) [] (Wd w X' Y')) : Lw K t u 957 (lL a) [] (Wd w X Y) := by
  obtain ⟨r, w1, X', Y', hO, h3, h4, hI'⟩ := st_stand hI w (K.xs (a + 1).toNatClampNeg) (K.xs (a + 2).toNatClampNeg) (K.xs (a + 3).toNatClampNeg)
  refine l_aload h dL_law_957 rfl rfl ?_
  refine l_arg h dL_law_958 dL_law_959 dL_law_961 dL_law_962 dL_law_963 kc_1 rfl rfl (hin 1 (by decide)) ?_
  refine l_arg h dL_law_964 dL_law_965 dL_law_967 dL_law_968 dL_law_969 kc_2 rfl rfl (hin 2 (by decide)) ?_
  refine l_arg h dL_law_970 dL_law_971 dL_law_973 dL_law_974 dL_law_975 kc_3 rfl rfl (hin 3 (by decide)) ?_
  refine l_call (rv' := rvI) (c0 := 2) (S := []) h hf rfl rfl ok_X3_stand ⟨Nat.le_of_ble_eq_true rfl, Nat.le_of_ble_eq_true rfl⟩ hv_L_109 dL_law_976 (l_obj w X Y) (s_X3_stand 0 _ _ _ _) h3 rfl rfl (Nat.le_of_ble_eq_true rfl) ?_
  refine l_aload h dL_law_979 rfl rfl ?_
  refine l_arg h dL_law_980 dL_law_981 dL_law_983 dL_law_984 dL_law_985 kc_1 rfl rfl (hin 1 (by decide)) ?_
  refine l_arg h dL_law_986 dL_law_987 dL_law_989 dL_law_990 dL_law_991 kc_2 rfl rfl (hin 2 (by decide)) ?_
  refine l_arg h dL_law_992 dL_law_993 dL_law_995 dL_law_996 dL_law_997 kc_3 rfl rfl (hin 3 (by decide)) ?_
  refine l_call (rv' := rvI) (c0 := 3) (S := [.int r]) h hf rfl rfl ok_X4_stand ⟨Nat.le_of_ble_eq_true rfl, Nat.le_of_ble_eq_true rfl⟩ hv_L_112 dL_law_998 hO (s_X4_stand 50 _ _ _ _) h4 rfl rfl (Nat.le_of_ble_eq_true rfl) ?_
  exact l_eq h dL_law_1001 (by decide) (next X' Y' hI')
theorem dL_law_1006 : decode code 1006 = .ok (.aload_n 1, 1) := by decide +kernel
theorem dL_law_1007 : decode code 1007 = .ok (.aload_n 0, 1) := by decide +kernel
theorem dL_law_1008 : decode code 1008 = .ok (.iload 4, 2) := by decide +kernel
theorem dL_law_1010 : decode code 1010 = .ok (.iconst 1, 1) := by decide +kernel
theorem dL_law_1011 : decode code 1011 = .ok (.iadd, 1) := by decide +kernel
theorem dL_law_1012 : decode code 1012 = .ok (.iaload, 1) := by decide +kernel
theorem dL_law_1013 : decode code 1013 = .ok (.aload_n 0, 1) := by decide +kernel
theorem dL_law_1014 : decode code 1014 = .ok (.iload 4, 2) := by decide +kernel
theorem dL_law_1016 : decode code 1016 = .ok (.iconst 2, 1) := by decide +kernel
theorem dL_law_1017 : decode code 1017 = .ok (.iadd, 1) := by decide +kernel
theorem dL_law_1018 : decode code 1018 = .ok (.iaload, 1) := by decide +kernel
theorem dL_law_1019 : decode code 1019 = .ok (.invokevirtual 113, 3) := by decide +kernel
theorem dL_law_1022 : decode code 1022 = .ok (.aload_n 2, 1) := by decide +kernel
theorem dL_law_1023 : decode code 1023 = .ok (.aload_n 0, 1) := by decide +kernel
theorem dL_law_1024 : decode code 1024 = .ok (.iload 4, 2) := by decide +kernel
theorem dL_law_1026 : decode code 1026 = .ok (.iconst 1, 1) := by decide +kernel
theorem dL_law_1027 : decode code 1027 = .ok (.iadd, 1) := by decide +kernel
theorem dL_law_1028 : decode code 1028 = .ok (.iaload, 1) := by decide +kernel
theorem dL_law_1029 : decode code 1029 = .ok (.aload_n 0, 1) := by decide +kernel
theorem dL_law_1030 : decode code 1030 = .ok (.iload 4, 2) := by decide +kernel
theorem dL_law_1032 : decode code 1032 = .ok (.iconst 2, 1) := by decide +kernel
theorem dL_law_1033 : decode code 1033 = .ok (.iadd, 1) := by decide +kernel
theorem dL_law_1034 : decode code 1034 = .ok (.iaload, 1) := by decide +kernel
theorem dL_law_1035 : decode code 1035 = .ok (.invokevirtual 116, 3) := by decide +kernel
theorem dL_law_1038 : decode code 1038 = .ok (.if_icmp .eq 900, 3) := by decide +kernel
theorem hv_L_113 : a_okV RL M_X3_least 113 := ⟨a_in 541 (by decide +kernel) rfl, a_in 542 (by decide +kernel) rfl, a_in 543 (by decide +kernel) rfl⟩
theorem hv_L_116 : a_okV RL M_X4_least 116 := ⟨a_in 1285 (by decide +kernel) rfl, a_in 1286 (by decide +kernel) rfl, a_in 1287 (by decide +kernel) rfl⟩
theorem lc_least {K : lK} (h : K.Ok) {t u : Nat} (hf : t ≤ 601024 ∧ u ≤ 7293034) {w : aW} {X : aX} {Y : aY} (hI : Inv X Y) {a : Int32} (hin : ∀ v : Int32, v = 1 ∨ v = 2 ∨ v = 3 ∨ v = 4 ∨ v = 5 → vp_in (a + v) K.n) (next : ∀ (X' : aX) (Y' : aY), Inv X' Y' → Lw K t u 1938 (lL a) [] (Wd w X' Y')) : Lw K t u 1006 (lL a) [] (Wd w X Y) := by
  obtain ⟨r, w1, X', Y', hO, h3, h4, hI'⟩ := st_least hI w (K.xs (a + 1).toNatClampNeg) (K.xs (a + 2).toNatClampNeg)
  refine l_aload h dL_law_1006 rfl rfl ?_
  refine l_arg h dL_law_1007 dL_law_1008 dL_law_1010 dL_law_1011 dL_law_1012 kc_1 rfl rfl (hin 1 (by decide)) ?_
  refine l_arg h dL_law_1013 dL_law_1014 dL_law_1016 dL_law_1017 dL_law_1018 kc_2 rfl rfl (hin 2 (by decide)) ?_
  refine l_call (rv' := rvI) (c0 := 2) (S := []) h hf rfl rfl ok_X3_least ⟨Nat.le_of_ble_eq_true rfl, Nat.le_of_ble_eq_true rfl⟩ hv_L_113 dL_law_1019 (l_obj w X Y) (s_X3_least 0 _ _ _) h3 rfl rfl (Nat.le_of_ble_eq_true rfl) ?_
  refine l_aload h dL_law_1022 rfl rfl ?_
  refine l_arg h dL_law_1023 dL_law_1024 dL_law_1026 dL_law_1027 dL_law_1028 kc_1 rfl rfl (hin 1 (by decide)) ?_
  refine l_arg h dL_law_1029 dL_law_1030 dL_law_1032 dL_law_1033 dL_law_1034 kc_2 rfl rfl (hin 2 (by decide)) ?_
  refine l_call (rv' := rvI) (c0 := 3) (S := [.int r]) h hf rfl rfl ok_X4_least ⟨Nat.le_of_ble_eq_true rfl, Nat.le_of_ble_eq_true rfl⟩ hv_L_116 dL_law_1035 hO (s_X4_least 50 _ _ _) h4 rfl rfl (Nat.le_of_ble_eq_true rfl) ?_
  exact l_eq h dL_law_1038 (by decide) (next X' Y' hI')
theorem dL_law_1043 : decode code 1043 = .ok (.aload_n 1, 1) := by decide +kernel
theorem dL_law_1044 : decode code 1044 = .ok (.aload_n 0, 1) := by decide +kernel
theorem dL_law_1045 : decode code 1045 = .ok (.iload 4, 2) := by decide +kernel
theorem dL_law_1047 : decode code 1047 = .ok (.iconst 1, 1) := by decide +kernel
theorem dL_law_1048 : decode code 1048 = .ok (.iadd, 1) := by decide +kernel
theorem dL_law_1049 : decode code 1049 = .ok (.iaload, 1) := by decide +kernel
theorem dL_law_1050 : decode code 1050 = .ok (.invokevirtual 117, 3) := by decide +kernel
theorem dL_law_1053 : decode code 1053 = .ok (.aload_n 2, 1) := by decide +kernel
theorem dL_law_1054 : decode code 1054 = .ok (.aload_n 0, 1) := by decide +kernel
theorem dL_law_1055 : decode code 1055 = .ok (.iload 4, 2) := by decide +kernel
theorem dL_law_1057 : decode code 1057 = .ok (.iconst 1, 1) := by decide +kernel
theorem dL_law_1058 : decode code 1058 = .ok (.iadd, 1) := by decide +kernel
theorem dL_law_1059 : decode code 1059 = .ok (.iaload, 1) := by decide +kernel
theorem dL_law_1060 : decode code 1060 = .ok (.invokevirtual 120, 3) := by decide +kernel
theorem dL_law_1063 : decode code 1063 = .ok (.if_icmp .eq 875, 3) := by decide +kernel
theorem hv_L_117 : a_okV RL M_X3_exchange 117 := ⟨a_in 545 (by decide +kernel) rfl, a_in 546 (by decide +kernel) rfl, a_in 547 (by decide +kernel) rfl⟩
theorem hv_L_120 : a_okV RL M_X4_exchange 120 := ⟨a_in 1289 (by decide +kernel) rfl, a_in 1290 (by decide +kernel) rfl, a_in 1291 (by decide +kernel) rfl⟩
theorem lc_exchange {K : lK} (h : K.Ok) {t u : Nat} (hf : t ≤ 601024 ∧ u ≤ 7293034) {w : aW} {X : aX} {Y : aY} (hI : Inv X Y) {a : Int32} (hin : ∀ v : Int32, v = 1 ∨ v = 2 ∨ v = 3 ∨ v = 4 ∨ v = 5 → vp_in (a + v) K.n) (next : ∀ (X' : aX) (Y' : aY), Inv X' Y' → Lw K t u 1938 (lL a) [] (Wd w X' Y')) : Lw K t u 1043 (lL a) [] (Wd w X Y) := by
  obtain ⟨r, w1, X', Y', hO, h3, h4, hI'⟩ := st_exchange hI w (K.xs (a + 1).toNatClampNeg)
  refine l_aload h dL_law_1043 rfl rfl ?_
  refine l_arg h dL_law_1044 dL_law_1045 dL_law_1047 dL_law_1048 dL_law_1049 kc_1 rfl rfl (hin 1 (by decide)) ?_
  refine l_call (rv' := rvI) (c0 := 2) (S := []) h hf rfl rfl ok_X3_exchange ⟨Nat.le_of_ble_eq_true rfl, Nat.le_of_ble_eq_true rfl⟩ hv_L_117 dL_law_1050 (l_obj w X Y) (s_X3_exchange 0 _ _) h3 rfl rfl (Nat.le_of_ble_eq_true rfl) ?_
  refine l_aload h dL_law_1053 rfl rfl ?_
  refine l_arg h dL_law_1054 dL_law_1055 dL_law_1057 dL_law_1058 dL_law_1059 kc_1 rfl rfl (hin 1 (by decide)) ?_
  refine l_call (rv' := rvI) (c0 := 3) (S := [.int r]) h hf rfl rfl ok_X4_exchange ⟨Nat.le_of_ble_eq_true rfl, Nat.le_of_ble_eq_true rfl⟩ hv_L_120 dL_law_1060 hO (s_X4_exchange 50 _ _) h4 rfl rfl (Nat.le_of_ble_eq_true rfl) ?_
  exact l_eq h dL_law_1063 (by decide) (next X' Y' hI')
theorem dL_law_1068 : decode code 1068 = .ok (.aload_n 1, 1) := by decide +kernel
theorem dL_law_1069 : decode code 1069 = .ok (.aload_n 0, 1) := by decide +kernel
theorem dL_law_1070 : decode code 1070 = .ok (.iload 4, 2) := by decide +kernel
theorem dL_law_1072 : decode code 1072 = .ok (.iconst 1, 1) := by decide +kernel
theorem dL_law_1073 : decode code 1073 = .ok (.iadd, 1) := by decide +kernel
theorem dL_law_1074 : decode code 1074 = .ok (.iaload, 1) := by decide +kernel
theorem dL_law_1075 : decode code 1075 = .ok (.aload_n 0, 1) := by decide +kernel
theorem dL_law_1076 : decode code 1076 = .ok (.iload 4, 2) := by decide +kernel
theorem dL_law_1078 : decode code 1078 = .ok (.iconst 2, 1) := by decide +kernel
theorem dL_law_1079 : decode code 1079 = .ok (.iadd, 1) := by decide +kernel
theorem dL_law_1080 : decode code 1080 = .ok (.iaload, 1) := by decide +kernel
theorem dL_law_1081 : decode code 1081 = .ok (.aload_n 0, 1) := by decide +kernel
theorem dL_law_1082 : decode code 1082 = .ok (.iload 4, 2) := by decide +kernel
theorem dL_law_1084 : decode code 1084 = .ok (.iconst 3, 1) := by decide +kernel
theorem dL_law_1085 : decode code 1085 = .ok (.iadd, 1) := by decide +kernel
theorem dL_law_1086 : decode code 1086 = .ok (.iaload, 1) := by decide +kernel
theorem dL_law_1087 : decode code 1087 = .ok (.invokevirtual 121, 3) := by decide +kernel
theorem dL_law_1090 : decode code 1090 = .ok (.aload_n 2, 1) := by decide +kernel
theorem dL_law_1091 : decode code 1091 = .ok (.aload_n 0, 1) := by decide +kernel
theorem dL_law_1092 : decode code 1092 = .ok (.iload 4, 2) := by decide +kernel
theorem dL_law_1094 : decode code 1094 = .ok (.iconst 1, 1) := by decide +kernel
theorem dL_law_1095 : decode code 1095 = .ok (.iadd, 1) := by decide +kernel
theorem dL_law_1096 : decode code 1096 = .ok (.iaload, 1) := by decide +kernel
theorem dL_law_1097 : decode code 1097 = .ok (.aload_n 0, 1) := by decide +kernel
theorem dL_law_1098 : decode code 1098 = .ok (.iload 4, 2) := by decide +kernel
theorem dL_law_1100 : decode code 1100 = .ok (.iconst 2, 1) := by decide +kernel
theorem dL_law_1101 : decode code 1101 = .ok (.iadd, 1) := by decide +kernel
theorem dL_law_1102 : decode code 1102 = .ok (.iaload, 1) := by decide +kernel
theorem dL_law_1103 : decode code 1103 = .ok (.aload_n 0, 1) := by decide +kernel
theorem dL_law_1104 : decode code 1104 = .ok (.iload 4, 2) := by decide +kernel
theorem dL_law_1106 : decode code 1106 = .ok (.iconst 3, 1) := by decide +kernel
theorem dL_law_1107 : decode code 1107 = .ok (.iadd, 1) := by decide +kernel
theorem dL_law_1108 : decode code 1108 = .ok (.iaload, 1) := by decide +kernel
theorem dL_law_1109 : decode code 1109 = .ok (.invokevirtual 124, 3) := by decide +kernel
theorem dL_law_1112 : decode code 1112 = .ok (.if_icmp .eq 826, 3) := by decide +kernel
theorem hv_L_121 : a_okV RL M_X3_teach 121 := ⟨a_in 553 (by decide +kernel) rfl, a_in 554 (by decide +kernel) rfl, a_in 555 (by decide +kernel) rfl⟩
theorem hv_L_124 : a_okV RL M_X4_teach 124 := ⟨a_in 1297 (by decide +kernel) rfl, a_in 1298 (by decide +kernel) rfl, a_in 1299 (by decide +kernel) rfl⟩
theorem lc_teach {K : lK} (h : K.Ok) {t u : Nat} (hf : t ≤ 601024 ∧ u ≤ 7293034) {w : aW} {X : aX} {Y : aY} (hI : Inv X Y) {a : Int32} (hin : ∀ v : Int32, v = 1 ∨ v = 2 ∨ v = 3 ∨ v = 4 ∨ v = 5 → vp_in (a + v) K.n) (next : ∀ (X' : aX) (Y' : aY), Inv X' Y' → Lw K t u 1938 (lL a) [] (Wd w X' Y')) : Lw K t u 1068 (lL a) [] (Wd w X Y) := by
  obtain ⟨r, w1, X', Y', hO, h3, h4, hI'⟩ := st_teach hI w (K.xs (a + 1).toNatClampNeg) (K.xs (a + 2).toNatClampNeg) (K.xs (a + 3).toNatClampNeg)
  refine l_aload h dL_law_1068 rfl rfl ?_
  refine l_arg h dL_law_1069 dL_law_1070 dL_law_1072 dL_law_1073 dL_law_1074 kc_1 rfl rfl (hin 1 (by decide)) ?_
  refine l_arg h dL_law_1075 dL_law_1076 dL_law_1078 dL_law_1079 dL_law_1080 kc_2 rfl rfl (hin 2 (by decide)) ?_
  refine l_arg h dL_law_1081 dL_law_1082 dL_law_1084 dL_law_1085 dL_law_1086 kc_3 rfl rfl (hin 3 (by decide)) ?_
  refine l_call (rv' := rvI) (c0 := 2) (S := []) h hf rfl rfl ok_X3_teach ⟨Nat.le_of_ble_eq_true rfl, Nat.le_of_ble_eq_true rfl⟩ hv_L_121 dL_law_1087 (l_obj w X Y) (s_X3_teach 0 _ _ _ _) h3 rfl rfl (Nat.le_of_ble_eq_true rfl) ?_
  refine l_aload h dL_law_1090 rfl rfl ?_
  refine l_arg h dL_law_1091 dL_law_1092 dL_law_1094 dL_law_1095 dL_law_1096 kc_1 rfl rfl (hin 1 (by decide)) ?_
  refine l_arg h dL_law_1097 dL_law_1098 dL_law_1100 dL_law_1101 dL_law_1102 kc_2 rfl rfl (hin 2 (by decide)) ?_
  refine l_arg h dL_law_1103 dL_law_1104 dL_law_1106 dL_law_1107 dL_law_1108 kc_3 rfl rfl (hin 3 (by decide)) ?_
  refine l_call (rv' := rvI) (c0 := 3) (S := [.int r]) h hf rfl rfl ok_X4_teach ⟨Nat.le_of_ble_eq_true rfl, Nat.le_of_ble_eq_true rfl⟩ hv_L_124 dL_law_1109 hO (s_X4_teach 50 _ _ _ _) h4 rfl rfl (Nat.le_of_ble_eq_true rfl) ?_
  exact l_eq h dL_law_1112 (by decide) (next X' Y' hI')
