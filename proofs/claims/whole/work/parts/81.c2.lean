set_option maxHeartbeats 4000000 in
set_option maxRecDepth 100000 in
theorem case_24 {v : Av} {D : va_G} {cA : Nat → ClassId} {A : Nat → Prop} {Q : State → Prop} {ax am : Nat → Nat} {b L i : Nat} {xs : Nat → Int32} {M N : Mem} (hC : LC v D cA A b L xs) (hi : i + 6 ≤ L) (hI : Inv M N) (hk : ∀ M N, Inv M N → LO v D cA A Q ax am b i 1283 [] M N) : LO v D cA A Q ax am b i 905 [] M N := by
  have hA := hC.1
  obtain ⟨r, M', N', h1, h2, hI'⟩ := p_odds hI (xs (i + 1)) (xs (i + 2))
  refine CO.aload_n (n := 906) hA dL_law_905 2 rfl rfl ?_
  refine CO.arg (k := 1) (n := 911) hC (by omega) rfl dL_law_906 dL_law_907 dL_law_908 dL_law_909 dL_law_910 rfl ?_
  refine CO.arg (k := 2) (n := 916) hC (by omega) rfl dL_law_911 dL_law_912 dL_law_913 dL_law_914 dL_law_915 rfl ?_
  refine CO.callV (r := 0) (m := 2) (n := 919) (As := [.int (xs (i + 1)), .int (xs (i + 2))]) (rest := []) hA (c_X5_odds v.2.1 (D, ax, cA, w_list am cA N 0 shM, A, shX) rfl (xs (i + 1)) (xs (i + 2)) M) h1 gL_law_X5_odds rfl rfl rfl (by decide +kernel) (by decide) rfl rfl (by decide : (0 : Nat) ≤ 8) dL_law_916 rfl (by decide) ?_
  refine CO.swap ?_
  refine CO.aload_n (n := 920) hA dL_law_919 1 rfl rfl ?_
  refine CO.arg (k := 1) (n := 925) hC (by omega) rfl dL_law_920 dL_law_921 dL_law_922 dL_law_923 dL_law_924 rfl ?_
  refine CO.arg (k := 2) (n := 930) hC (by omega) rfl dL_law_925 dL_law_926 dL_law_927 dL_law_928 dL_law_929 rfl ?_
  refine CO.callV (r := 0) (m := 2) (n := 933) (As := [.int (xs (i + 1)), .int (xs (i + 2))]) (rest := [.long r]) hA (c_X6_odds v.2.1 (D, am, cA, w_list ax cA M' 0 shX, A, shM) rfl (xs (i + 1)) (xs (i + 2)) N) h2 gL_law_X6_odds rfl rfl rfl (by decide +kernel) (by decide) rfl rfl (by decide : (2 : Nat) ≤ 8) dL_law_930 rfl (by decide) ?_
  refine CO.swap ?_
  refine CO.same_l (n := 1283) hA dL_law_933 dL_law_934 rfl ?_
  exact hk M' N' hI'
set_option maxHeartbeats 4000000 in
set_option maxRecDepth 100000 in
theorem case_25 {v : Av} {D : va_G} {cA : Nat → ClassId} {A : Nat → Prop} {Q : State → Prop} {ax am : Nat → Nat} {b L i : Nat} {xs : Nat → Int32} {M N : Mem} (hC : LC v D cA A b L xs) (hi : i + 6 ≤ L) (hI : Inv M N) (hk : ∀ M N, Inv M N → LO v D cA A Q ax am b i 1283 [] M N) : LO v D cA A Q ax am b i 939 [] M N := by
  have hA := hC.1
  obtain ⟨r, M', N', h1, h2, hI'⟩ := p_sheet hI (xs (i + 1)) (xs (i + 2)) (xs (i + 3))
  refine CO.aload_n (n := 940) hA dL_law_939 2 rfl rfl ?_
  refine CO.arg (k := 1) (n := 945) hC (by omega) rfl dL_law_940 dL_law_941 dL_law_942 dL_law_943 dL_law_944 rfl ?_
  refine CO.arg (k := 2) (n := 950) hC (by omega) rfl dL_law_945 dL_law_946 dL_law_947 dL_law_948 dL_law_949 rfl ?_
  refine CO.arg (k := 3) (n := 955) hC (by omega) rfl dL_law_950 dL_law_951 dL_law_952 dL_law_953 dL_law_954 rfl ?_
  refine CO.callV (r := 0) (m := 3) (n := 958) (As := [.int (xs (i + 1)), .int (xs (i + 2)), .int (xs (i + 3))]) (rest := []) hA (c_X5_sheet v.2.1 (D, ax, cA, w_list am cA N 0 shM, A, shX) rfl (xs (i + 1)) (xs (i + 2)) (xs (i + 3)) M) h1 gL_law_X5_sheet rfl rfl rfl (by decide +kernel) (by decide) rfl rfl (by decide : (0 : Nat) ≤ 8) dL_law_955 rfl (by decide) ?_
  refine CO.swap ?_
  refine CO.aload_n (n := 959) hA dL_law_958 1 rfl rfl ?_
  refine CO.arg (k := 1) (n := 964) hC (by omega) rfl dL_law_959 dL_law_960 dL_law_961 dL_law_962 dL_law_963 rfl ?_
  refine CO.arg (k := 2) (n := 969) hC (by omega) rfl dL_law_964 dL_law_965 dL_law_966 dL_law_967 dL_law_968 rfl ?_
  refine CO.arg (k := 3) (n := 974) hC (by omega) rfl dL_law_969 dL_law_970 dL_law_971 dL_law_972 dL_law_973 rfl ?_
  refine CO.callV (r := 0) (m := 3) (n := 977) (As := [.int (xs (i + 1)), .int (xs (i + 2)), .int (xs (i + 3))]) (rest := [.int r]) hA (c_X6_sheet v.2.1 (D, am, cA, w_list ax cA M' 0 shX, A, shM) rfl (xs (i + 1)) (xs (i + 2)) (xs (i + 3)) N) h2 gL_law_X6_sheet rfl rfl rfl (by decide +kernel) (by decide) rfl rfl (by decide : (1 : Nat) ≤ 8) dL_law_974 rfl (by decide) ?_
  refine CO.swap ?_
  refine CO.same_i (n := 1283) hA dL_law_977 rfl ?_
  exact hk M' N' hI'
set_option maxHeartbeats 4000000 in
set_option maxRecDepth 100000 in
theorem case_26 {v : Av} {D : va_G} {cA : Nat → ClassId} {A : Nat → Prop} {Q : State → Prop} {ax am : Nat → Nat} {b L i : Nat} {xs : Nat → Int32} {M N : Mem} (hC : LC v D cA A b L xs) (hi : i + 6 ≤ L) (hI : Inv M N) (hk : ∀ M N, Inv M N → LO v D cA A Q ax am b i 1283 [] M N) : LO v D cA A Q ax am b i 982 [] M N := by
  have hA := hC.1
  obtain ⟨r, M', N', h1, h2, hI'⟩ := p_lose hI (xs (i + 1))
  refine CO.aload_n (n := 983) hA dL_law_982 2 rfl rfl ?_
  refine CO.arg (k := 1) (n := 988) hC (by omega) rfl dL_law_983 dL_law_984 dL_law_985 dL_law_986 dL_law_987 rfl ?_
  refine CO.callV (r := 0) (m := 1) (n := 991) (As := [.int (xs (i + 1))]) (rest := []) hA (c_X5_lose v.2.1 (D, ax, cA, w_list am cA N 0 shM, A, shX) rfl (xs (i + 1)) M) h1 gL_law_X5_lose rfl rfl rfl (by decide +kernel) (by decide) rfl rfl (by decide : (0 : Nat) ≤ 8) dL_law_988 rfl (by decide) ?_
  refine CO.swap ?_
  refine CO.aload_n (n := 992) hA dL_law_991 1 rfl rfl ?_
  refine CO.arg (k := 1) (n := 997) hC (by omega) rfl dL_law_992 dL_law_993 dL_law_994 dL_law_995 dL_law_996 rfl ?_
  refine CO.callV (r := 0) (m := 1) (n := 1000) (As := [.int (xs (i + 1))]) (rest := [.int r]) hA (c_X6_lose v.2.1 (D, am, cA, w_list ax cA M' 0 shX, A, shM) rfl (xs (i + 1)) N) h2 gL_law_X6_lose rfl rfl rfl (by decide +kernel) (by decide) rfl rfl (by decide : (1 : Nat) ≤ 8) dL_law_997 rfl (by decide) ?_
  refine CO.swap ?_
  refine CO.same_i (n := 1283) hA dL_law_1000 rfl ?_
  exact hk M' N' hI'
set_option maxHeartbeats 4000000 in
set_option maxRecDepth 100000 in
theorem case_27 {v : Av} {D : va_G} {cA : Nat → ClassId} {A : Nat → Prop} {Q : State → Prop} {ax am : Nat → Nat} {b L i : Nat} {xs : Nat → Int32} {M N : Mem} (hC : LC v D cA A b L xs) (hi : i + 6 ≤ L) (hI : Inv M N) (hk : ∀ M N, Inv M N → LO v D cA A Q ax am b i 1283 [] M N) : LO v D cA A Q ax am b i 1005 [] M N := by
  have hA := hC.1
  obtain ⟨r, M', N', h1, h2, hI'⟩ := p_put hI (xs (i + 1)) (xs (i + 2)) (xs (i + 3))
  refine CO.aload_n (n := 1006) hA dL_law_1005 2 rfl rfl ?_
  refine CO.arg (k := 1) (n := 1011) hC (by omega) rfl dL_law_1006 dL_law_1007 dL_law_1008 dL_law_1009 dL_law_1010 rfl ?_
  refine CO.arg (k := 2) (n := 1016) hC (by omega) rfl dL_law_1011 dL_law_1012 dL_law_1013 dL_law_1014 dL_law_1015 rfl ?_
  refine CO.arg (k := 3) (n := 1021) hC (by omega) rfl dL_law_1016 dL_law_1017 dL_law_1018 dL_law_1019 dL_law_1020 rfl ?_
  refine CO.callV (r := 0) (m := 3) (n := 1024) (As := [.int (xs (i + 1)), .int (xs (i + 2)), .int (xs (i + 3))]) (rest := []) hA (c_X5_put v.2.1 (D, ax, cA, w_list am cA N 0 shM, A, shX) rfl (xs (i + 1)) (xs (i + 2)) (xs (i + 3)) M) h1 gL_law_X5_put rfl rfl rfl (by decide +kernel) (by decide) rfl rfl (by decide : (0 : Nat) ≤ 8) dL_law_1021 rfl (by decide) ?_
  refine CO.swap ?_
  refine CO.aload_n (n := 1025) hA dL_law_1024 1 rfl rfl ?_
  refine CO.arg (k := 1) (n := 1030) hC (by omega) rfl dL_law_1025 dL_law_1026 dL_law_1027 dL_law_1028 dL_law_1029 rfl ?_
  refine CO.arg (k := 2) (n := 1035) hC (by omega) rfl dL_law_1030 dL_law_1031 dL_law_1032 dL_law_1033 dL_law_1034 rfl ?_
  refine CO.arg (k := 3) (n := 1040) hC (by omega) rfl dL_law_1035 dL_law_1036 dL_law_1037 dL_law_1038 dL_law_1039 rfl ?_
  refine CO.callV (r := 0) (m := 3) (n := 1043) (As := [.int (xs (i + 1)), .int (xs (i + 2)), .int (xs (i + 3))]) (rest := [.int r]) hA (c_X6_put v.2.1 (D, am, cA, w_list ax cA M' 0 shX, A, shM) rfl (xs (i + 1)) (xs (i + 2)) (xs (i + 3)) N) h2 gL_law_X6_put rfl rfl rfl (by decide +kernel) (by decide) rfl rfl (by decide : (1 : Nat) ≤ 8) dL_law_1040 rfl (by decide) ?_
  refine CO.swap ?_
  refine CO.same_i (n := 1283) hA dL_law_1043 rfl ?_
  exact hk M' N' hI'
set_option maxHeartbeats 4000000 in
set_option maxRecDepth 100000 in
theorem case_28 {v : Av} {D : va_G} {cA : Nat → ClassId} {A : Nat → Prop} {Q : State → Prop} {ax am : Nat → Nat} {b L i : Nat} {xs : Nat → Int32} {M N : Mem} (hC : LC v D cA A b L xs) (hi : i + 6 ≤ L) (hI : Inv M N) (hk : ∀ M N, Inv M N → LO v D cA A Q ax am b i 1283 [] M N) : LO v D cA A Q ax am b i 1048 [] M N := by
  have hA := hC.1
  obtain ⟨r, M', N', h1, h2, hI'⟩ := p_cell hI (xs (i + 1)) (xs (i + 2)) (xs (i + 3))
  refine CO.aload_n (n := 1049) hA dL_law_1048 2 rfl rfl ?_
  refine CO.arg (k := 1) (n := 1054) hC (by omega) rfl dL_law_1049 dL_law_1050 dL_law_1051 dL_law_1052 dL_law_1053 rfl ?_
  refine CO.arg (k := 2) (n := 1059) hC (by omega) rfl dL_law_1054 dL_law_1055 dL_law_1056 dL_law_1057 dL_law_1058 rfl ?_
  refine CO.arg (k := 3) (n := 1064) hC (by omega) rfl dL_law_1059 dL_law_1060 dL_law_1061 dL_law_1062 dL_law_1063 rfl ?_
  refine CO.callV (r := 0) (m := 3) (n := 1067) (As := [.int (xs (i + 1)), .int (xs (i + 2)), .int (xs (i + 3))]) (rest := []) hA (c_X5_cell v.2.1 (D, ax, cA, w_list am cA N 0 shM, A, shX) rfl (xs (i + 1)) (xs (i + 2)) (xs (i + 3)) M) h1 gL_law_X5_cell rfl rfl rfl (by decide +kernel) (by decide) rfl rfl (by decide : (0 : Nat) ≤ 8) dL_law_1064 rfl (by decide) ?_
  refine CO.swap ?_
  refine CO.aload_n (n := 1068) hA dL_law_1067 1 rfl rfl ?_
  refine CO.arg (k := 1) (n := 1073) hC (by omega) rfl dL_law_1068 dL_law_1069 dL_law_1070 dL_law_1071 dL_law_1072 rfl ?_
  refine CO.arg (k := 2) (n := 1078) hC (by omega) rfl dL_law_1073 dL_law_1074 dL_law_1075 dL_law_1076 dL_law_1077 rfl ?_
  refine CO.arg (k := 3) (n := 1083) hC (by omega) rfl dL_law_1078 dL_law_1079 dL_law_1080 dL_law_1081 dL_law_1082 rfl ?_
  refine CO.callV (r := 0) (m := 3) (n := 1086) (As := [.int (xs (i + 1)), .int (xs (i + 2)), .int (xs (i + 3))]) (rest := [.long r]) hA (c_X6_cell v.2.1 (D, am, cA, w_list ax cA M' 0 shX, A, shM) rfl (xs (i + 1)) (xs (i + 2)) (xs (i + 3)) N) h2 gL_law_X6_cell rfl rfl rfl (by decide +kernel) (by decide) rfl rfl (by decide : (2 : Nat) ≤ 8) dL_law_1083 rfl (by decide) ?_
  refine CO.swap ?_
  refine CO.same_l (n := 1283) hA dL_law_1086 dL_law_1087 rfl ?_
  exact hk M' N' hI'
set_option maxHeartbeats 4000000 in
set_option maxRecDepth 100000 in
theorem case_29 {v : Av} {D : va_G} {cA : Nat → ClassId} {A : Nat → Prop} {Q : State → Prop} {ax am : Nat → Nat} {b L i : Nat} {xs : Nat → Int32} {M N : Mem} (hC : LC v D cA A b L xs) (hi : i + 6 ≤ L) (hI : Inv M N) (hk : ∀ M N, Inv M N → LO v D cA A Q ax am b i 1283 [] M N) : LO v D cA A Q ax am b i 1092 [] M N := by
  have hA := hC.1
  obtain ⟨r, M', N', h1, h2, hI'⟩ := p_copy hI (xs (i + 1)) (xs (i + 2)) (xs (i + 3)) (xs (i + 4)) (xs (i + 5))
  refine CO.aload_n (n := 1093) hA dL_law_1092 2 rfl rfl ?_
  refine CO.arg (k := 1) (n := 1098) hC (by omega) rfl dL_law_1093 dL_law_1094 dL_law_1095 dL_law_1096 dL_law_1097 rfl ?_
  refine CO.arg (k := 2) (n := 1103) hC (by omega) rfl dL_law_1098 dL_law_1099 dL_law_1100 dL_law_1101 dL_law_1102 rfl ?_
  refine CO.arg (k := 3) (n := 1108) hC (by omega) rfl dL_law_1103 dL_law_1104 dL_law_1105 dL_law_1106 dL_law_1107 rfl ?_
  refine CO.arg (k := 4) (n := 1113) hC (by omega) rfl dL_law_1108 dL_law_1109 dL_law_1110 dL_law_1111 dL_law_1112 rfl ?_
  refine CO.arg (k := 5) (n := 1118) hC (by omega) rfl dL_law_1113 dL_law_1114 dL_law_1115 dL_law_1116 dL_law_1117 rfl ?_
  refine CO.callV (r := 0) (m := 5) (n := 1121) (As := [.int (xs (i + 1)), .int (xs (i + 2)), .int (xs (i + 3)), .int (xs (i + 4)), .int (xs (i + 5))]) (rest := []) hA (c_X5_copy v.2.1 (D, ax, cA, w_list am cA N 0 shM, A, shX) rfl (xs (i + 1)) (xs (i + 2)) (xs (i + 3)) (xs (i + 4)) (xs (i + 5)) M) h1 gL_law_X5_copy rfl rfl rfl (by decide +kernel) (by decide) rfl rfl (by decide : (0 : Nat) ≤ 8) dL_law_1118 rfl (by decide) ?_
  refine CO.swap ?_
  refine CO.aload_n (n := 1122) hA dL_law_1121 1 rfl rfl ?_
  refine CO.arg (k := 1) (n := 1127) hC (by omega) rfl dL_law_1122 dL_law_1123 dL_law_1124 dL_law_1125 dL_law_1126 rfl ?_
  refine CO.arg (k := 2) (n := 1132) hC (by omega) rfl dL_law_1127 dL_law_1128 dL_law_1129 dL_law_1130 dL_law_1131 rfl ?_
  refine CO.arg (k := 3) (n := 1137) hC (by omega) rfl dL_law_1132 dL_law_1133 dL_law_1134 dL_law_1135 dL_law_1136 rfl ?_
  refine CO.arg (k := 4) (n := 1142) hC (by omega) rfl dL_law_1137 dL_law_1138 dL_law_1139 dL_law_1140 dL_law_1141 rfl ?_
  refine CO.arg (k := 5) (n := 1147) hC (by omega) rfl dL_law_1142 dL_law_1143 dL_law_1144 dL_law_1145 dL_law_1146 rfl ?_
  refine CO.callV (r := 0) (m := 5) (n := 1150) (As := [.int (xs (i + 1)), .int (xs (i + 2)), .int (xs (i + 3)), .int (xs (i + 4)), .int (xs (i + 5))]) (rest := [.int r]) hA (c_X6_copy v.2.1 (D, am, cA, w_list ax cA M' 0 shX, A, shM) rfl (xs (i + 1)) (xs (i + 2)) (xs (i + 3)) (xs (i + 4)) (xs (i + 5)) N) h2 gL_law_X6_copy rfl rfl rfl (by decide +kernel) (by decide) rfl rfl (by decide : (1 : Nat) ≤ 8) dL_law_1147 rfl (by decide) ?_
  refine CO.swap ?_
  refine CO.same_i (n := 1283) hA dL_law_1150 rfl ?_
  exact hk M' N' hI'
set_option maxHeartbeats 4000000 in
set_option maxRecDepth 100000 in
theorem case_30 {v : Av} {D : va_G} {cA : Nat → ClassId} {A : Nat → Prop} {Q : State → Prop} {ax am : Nat → Nat} {b L i : Nat} {xs : Nat → Int32} {M N : Mem} (hC : LC v D cA A b L xs) (hi : i + 6 ≤ L) (hI : Inv M N) (hk : ∀ M N, Inv M N → LO v D cA A Q ax am b i 1283 [] M N) : LO v D cA A Q ax am b i 1155 [] M N := by
  have hA := hC.1
  obtain ⟨r, M', N', h1, h2, hI'⟩ := p_tell hI (xs (i + 1))
  refine CO.aload_n (n := 1156) hA dL_law_1155 2 rfl rfl ?_
  refine CO.arg (k := 1) (n := 1161) hC (by omega) rfl dL_law_1156 dL_law_1157 dL_law_1158 dL_law_1159 dL_law_1160 rfl ?_
  refine CO.callV (r := 0) (m := 1) (n := 1164) (As := [.int (xs (i + 1))]) (rest := []) hA (c_X5_tell v.2.1 (D, ax, cA, w_list am cA N 0 shM, A, shX) rfl (xs (i + 1)) M) h1 gL_law_X5_tell rfl rfl rfl (by decide +kernel) (by decide) rfl rfl (by decide : (0 : Nat) ≤ 8) dL_law_1161 rfl (by decide) ?_
  refine CO.swap ?_
  refine CO.aload_n (n := 1165) hA dL_law_1164 1 rfl rfl ?_
  refine CO.arg (k := 1) (n := 1170) hC (by omega) rfl dL_law_1165 dL_law_1166 dL_law_1167 dL_law_1168 dL_law_1169 rfl ?_
  refine CO.callV (r := 0) (m := 1) (n := 1173) (As := [.int (xs (i + 1))]) (rest := [.int r]) hA (c_X6_tell v.2.1 (D, am, cA, w_list ax cA M' 0 shX, A, shM) rfl (xs (i + 1)) N) h2 gL_law_X6_tell rfl rfl rfl (by decide +kernel) (by decide) rfl rfl (by decide : (1 : Nat) ≤ 8) dL_law_1170 rfl (by decide) ?_
  refine CO.swap ?_
  refine CO.same_i (n := 1283) hA dL_law_1173 rfl ?_
  exact hk M' N' hI'
set_option maxHeartbeats 4000000 in
set_option maxRecDepth 100000 in
theorem case_31 {v : Av} {D : va_G} {cA : Nat → ClassId} {A : Nat → Prop} {Q : State → Prop} {ax am : Nat → Nat} {b L i : Nat} {xs : Nat → Int32} {M N : Mem} (hC : LC v D cA A b L xs) (hi : i + 6 ≤ L) (hI : Inv M N) (hk : ∀ M N, Inv M N → LO v D cA A Q ax am b i 1283 [] M N) : LO v D cA A Q ax am b i 1178 [] M N := by
  have hA := hC.1
  obtain ⟨r, M', N', h1, h2, hI'⟩ := p_call hI (xs (i + 1))
  refine CO.aload_n (n := 1179) hA dL_law_1178 2 rfl rfl ?_
  refine CO.arg (k := 1) (n := 1184) hC (by omega) rfl dL_law_1179 dL_law_1180 dL_law_1181 dL_law_1182 dL_law_1183 rfl ?_
  refine CO.callV (r := 0) (m := 1) (n := 1187) (As := [.int (xs (i + 1))]) (rest := []) hA (c_X5_call v.2.1 (D, ax, cA, w_list am cA N 0 shM, A, shX) rfl (xs (i + 1)) M) h1 gL_law_X5_call rfl rfl rfl (by decide +kernel) (by decide) rfl rfl (by decide : (0 : Nat) ≤ 8) dL_law_1184 rfl (by decide) ?_
  refine CO.swap ?_
  refine CO.aload_n (n := 1188) hA dL_law_1187 1 rfl rfl ?_
  refine CO.arg (k := 1) (n := 1193) hC (by omega) rfl dL_law_1188 dL_law_1189 dL_law_1190 dL_law_1191 dL_law_1192 rfl ?_
  refine CO.callV (r := 0) (m := 1) (n := 1196) (As := [.int (xs (i + 1))]) (rest := [.int r]) hA (c_X6_call v.2.1 (D, am, cA, w_list ax cA M' 0 shX, A, shM) rfl (xs (i + 1)) N) h2 gL_law_X6_call rfl rfl rfl (by decide +kernel) (by decide) rfl rfl (by decide : (1 : Nat) ≤ 8) dL_law_1193 rfl (by decide) ?_
  refine CO.swap ?_
  refine CO.same_i (n := 1283) hA dL_law_1196 rfl ?_
  exact hk M' N' hI'
set_option maxHeartbeats 4000000 in
set_option maxRecDepth 100000 in
theorem case_32 {v : Av} {D : va_G} {cA : Nat → ClassId} {A : Nat → Prop} {Q : State → Prop} {ax am : Nat → Nat} {b L i : Nat} {xs : Nat → Int32} {M N : Mem} (hC : LC v D cA A b L xs) (hi : i + 6 ≤ L) (hI : Inv M N) (hk : ∀ M N, Inv M N → LO v D cA A Q ax am b i 1283 [] M N) : LO v D cA A Q ax am b i 1201 [] M N := by
  have hA := hC.1
  obtain ⟨r, M', N', h1, h2, hI'⟩ := p_as hI (xs (i + 1)) (xs (i + 2))
  refine CO.aload_n (n := 1202) hA dL_law_1201 2 rfl rfl ?_
  refine CO.arg (k := 1) (n := 1207) hC (by omega) rfl dL_law_1202 dL_law_1203 dL_law_1204 dL_law_1205 dL_law_1206 rfl ?_
  refine CO.arg (k := 2) (n := 1212) hC (by omega) rfl dL_law_1207 dL_law_1208 dL_law_1209 dL_law_1210 dL_law_1211 rfl ?_
  refine CO.callV (r := 0) (m := 2) (n := 1215) (As := [.int (xs (i + 1)), .int (xs (i + 2))]) (rest := []) hA (c_X5_as v.2.1 (D, ax, cA, w_list am cA N 0 shM, A, shX) rfl (xs (i + 1)) (xs (i + 2)) M) h1 gL_law_X5_as rfl rfl rfl (by decide +kernel) (by decide) rfl rfl (by decide : (0 : Nat) ≤ 8) dL_law_1212 rfl (by decide) ?_
  refine CO.swap ?_
  refine CO.aload_n (n := 1216) hA dL_law_1215 1 rfl rfl ?_
  refine CO.arg (k := 1) (n := 1221) hC (by omega) rfl dL_law_1216 dL_law_1217 dL_law_1218 dL_law_1219 dL_law_1220 rfl ?_
  refine CO.arg (k := 2) (n := 1226) hC (by omega) rfl dL_law_1221 dL_law_1222 dL_law_1223 dL_law_1224 dL_law_1225 rfl ?_
  refine CO.callV (r := 0) (m := 2) (n := 1229) (As := [.int (xs (i + 1)), .int (xs (i + 2))]) (rest := [.int r]) hA (c_X6_as v.2.1 (D, am, cA, w_list ax cA M' 0 shX, A, shM) rfl (xs (i + 1)) (xs (i + 2)) N) h2 gL_law_X6_as rfl rfl rfl (by decide +kernel) (by decide) rfl rfl (by decide : (1 : Nat) ≤ 8) dL_law_1226 rfl (by decide) ?_
  refine CO.swap ?_
  refine CO.same_i (n := 1283) hA dL_law_1229 rfl ?_
  exact hk M' N' hI'
set_option maxHeartbeats 4000000 in
set_option maxRecDepth 100000 in
theorem case_33 {v : Av} {D : va_G} {cA : Nat → ClassId} {A : Nat → Prop} {Q : State → Prop} {ax am : Nat → Nat} {b L i : Nat} {xs : Nat → Int32} {M N : Mem} (hC : LC v D cA A b L xs) (hi : i + 6 ≤ L) (hI : Inv M N) (hk : ∀ M N, Inv M N → LO v D cA A Q ax am b i 1283 [] M N) : LO v D cA A Q ax am b i 1234 [] M N := by
  have hA := hC.1
  obtain ⟨r, M', N', h1, h2, hI'⟩ := p_trace hI 
  refine CO.aload_n (n := 1235) hA dL_law_1234 2 rfl rfl ?_
  refine CO.callV (r := 0) (m := 0) (n := 1238) (As := []) (rest := []) hA (c_X5_trace v.2.1 (D, ax, cA, w_list am cA N 0 shM, A, shX) rfl M) h1 gL_law_X5_trace rfl rfl rfl (by decide +kernel) (by decide) rfl rfl (by decide : (0 : Nat) ≤ 8) dL_law_1235 rfl (by decide) ?_
  refine CO.swap ?_
  refine CO.aload_n (n := 1239) hA dL_law_1238 1 rfl rfl ?_
  refine CO.callV (r := 0) (m := 0) (n := 1242) (As := []) (rest := [.int r]) hA (c_X6_trace v.2.1 (D, am, cA, w_list ax cA M' 0 shX, A, shM) rfl N) h2 gL_law_X6_trace rfl rfl rfl (by decide +kernel) (by decide) rfl rfl (by decide : (1 : Nat) ≤ 8) dL_law_1239 rfl (by decide) ?_
  refine CO.swap ?_
  refine CO.same_i (n := 1283) hA dL_law_1242 rfl ?_
  exact hk M' N' hI'
set_option maxHeartbeats 4000000 in
set_option maxRecDepth 100000 in
theorem case_34 {v : Av} {D : va_G} {cA : Nat → ClassId} {A : Nat → Prop} {Q : State → Prop} {ax am : Nat → Nat} {b L i : Nat} {xs : Nat → Int32} {M N : Mem} (hC : LC v D cA A b L xs) (hi : i + 6 ≤ L) (hI : Inv M N) (hk : ∀ M N, Inv M N → LO v D cA A Q ax am b i 1283 [] M N) : LO v D cA A Q ax am b i 1247 [] M N := by
  have hA := hC.1
  obtain ⟨r, M', N', h1, h2, hI'⟩ := p_fault hI 
  refine CO.aload_n (n := 1248) hA dL_law_1247 2 rfl rfl ?_
  refine CO.callV (r := 0) (m := 0) (n := 1251) (As := []) (rest := []) hA (c_X5_fault v.2.1 (D, ax, cA, w_list am cA N 0 shM, A, shX) rfl M) h1 gL_law_X5_fault rfl rfl rfl (by decide +kernel) (by decide) rfl rfl (by decide : (0 : Nat) ≤ 8) dL_law_1248 rfl (by decide) ?_
  refine CO.swap ?_
  refine CO.aload_n (n := 1252) hA dL_law_1251 1 rfl rfl ?_
  refine CO.callV (r := 0) (m := 0) (n := 1255) (As := []) (rest := [.int r]) hA (c_X6_fault v.2.1 (D, am, cA, w_list ax cA M' 0 shX, A, shM) rfl N) h2 gL_law_X6_fault rfl rfl rfl (by decide +kernel) (by decide) rfl rfl (by decide : (1 : Nat) ≤ 8) dL_law_1252 rfl (by decide) ?_
  refine CO.swap ?_
  refine CO.same_i (n := 1283) hA dL_law_1255 rfl ?_
  exact hk M' N' hI'
set_option maxHeartbeats 4000000 in
set_option maxRecDepth 100000 in
theorem case_35 {v : Av} {D : va_G} {cA : Nat → ClassId} {A : Nat → Prop} {Q : State → Prop} {ax am : Nat → Nat} {b L i : Nat} {xs : Nat → Int32} {M N : Mem} (hC : LC v D cA A b L xs) (hi : i + 6 ≤ L) (hI : Inv M N) (hk : ∀ M N, Inv M N → LO v D cA A Q ax am b i 1283 [] M N) : LO v D cA A Q ax am b i 1260 [] M N := by
  have hA := hC.1
  obtain ⟨r, M', N', h1, h2, hI'⟩ := p_many hI (xs (i + 1))
  refine CO.aload_n (n := 1261) hA dL_law_1260 2 rfl rfl ?_
  refine CO.arg (k := 1) (n := 1266) hC (by omega) rfl dL_law_1261 dL_law_1262 dL_law_1263 dL_law_1264 dL_law_1265 rfl ?_
  refine CO.callV (r := 0) (m := 1) (n := 1269) (As := [.int (xs (i + 1))]) (rest := []) hA (c_X5_many v.2.1 (D, ax, cA, w_list am cA N 0 shM, A, shX) rfl (xs (i + 1)) M) h1 gL_law_X5_many rfl rfl rfl (by decide +kernel) (by decide) rfl rfl (by decide : (0 : Nat) ≤ 8) dL_law_1266 rfl (by decide) ?_
  refine CO.swap ?_
  refine CO.aload_n (n := 1270) hA dL_law_1269 1 rfl rfl ?_
  refine CO.arg (k := 1) (n := 1275) hC (by omega) rfl dL_law_1270 dL_law_1271 dL_law_1272 dL_law_1273 dL_law_1274 rfl ?_
  refine CO.callV (r := 0) (m := 1) (n := 1278) (As := [.int (xs (i + 1))]) (rest := [.int r]) hA (c_X6_many v.2.1 (D, am, cA, w_list ax cA M' 0 shX, A, shM) rfl (xs (i + 1)) N) h2 gL_law_X6_many rfl rfl rfl (by decide +kernel) (by decide) rfl rfl (by decide : (1 : Nat) ≤ 8) dL_law_1275 rfl (by decide) ?_
  refine CO.swap ?_
  refine CO.same_i (n := 1283) hA dL_law_1278 rfl ?_
  exact hk M' N' hI'
