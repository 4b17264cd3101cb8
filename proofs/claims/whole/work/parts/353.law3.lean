/-! the law: the calls, 3 -/
section ZLW
variable {p : Program} {l : Launch} {e : Env} {s : State} {m : MethodId} {below : List Frame} {meth : Method} {c : Code} {g : za_L → Nat} {D : va_G} {cy : Nat → ClassId} {b L : Nat} {xs : Nat → Int32} {Q : State → Prop}
set_option maxRecDepth 100000 in
set_option maxHeartbeats 4000000 in
theorem zL_22 (C : za_C p s m #[Value.ref b] c code 4 RL g D cy) (hX : va_X b L xs s s.heap) (hbl : b < s.heap.size) (hbA : ¬ za_A g b) (hL : L ≤ 3072) {M : za_M} {n : Nat} (hI : zI M) (hn : n + 6 ≤ L) (kk : ∀ M', zI M' → zt p l e room_1 s m #[Value.ref b] below meth c 133 2551 Q g D cy 4 M' 1545 (zl_lv b g n) []) : zt p l e room_1 s m #[Value.ref b] below meth c 133 2551 Q g D cy 4 M 988 (zl_lv b g n) [] := by
  have h := zT_heats (xs (n + 1)) (xs (n + 2)) M (fun r1 r2 M2 => r1 = r2 ∧ zI M2) hI (fun v M' h => ⟨rfl, h⟩)
  refine zt_aload_n C 1 dL_law_988 rfl rfl ?_
  refine zl_arg C hX hbl hbA hL (k := 1) (by omega) dL_law_989 dL_law_990 dL_law_991 dL_law_992 dL_law_993 ?_
  refine zl_arg C hX hbl hbA hL (k := 2) (by omega) dL_law_994 dL_law_995 dL_law_996 dL_law_997 dL_law_998 ?_
  refine zt_cVi C [.int (xs (n + 1)), .int (xs (n + 2))] (m_X9_heats C.2.2.2.2.2.2 h) (za_mem (j := 0) rfl (by decide) (by decide)) (za_E_0 g cy M 0 0) rfl vY_X9_heats vV_X9_heats (Nat.le_of_ble_eq_true rfl) (by exact ⟨(Nat.le_of_ble_eq_true rfl), (Nat.le_of_ble_eq_true rfl)⟩) (by exact ⟨(Nat.le_of_ble_eq_true rfl), (Nat.le_of_ble_eq_true rfl)⟩) dL_law_999 rfl (fun r1 M1 h1 => ?_)
  refine zt_aload_n C 2 dL_law_1002 rfl rfl ?_
  refine zl_arg C hX hbl hbA hL (k := 1) (by omega) dL_law_1003 dL_law_1004 dL_law_1005 dL_law_1006 dL_law_1007 ?_
  refine zl_arg C hX hbl hbA hL (k := 2) (by omega) dL_law_1008 dL_law_1009 dL_law_1010 dL_law_1011 dL_law_1012 ?_
  refine zt_cVi C [.int (xs (n + 1)), .int (xs (n + 2))] (m_X10_heats C.2.2.2.2.2.2 h1) (za_mem (j := 27) rfl (by decide) (by decide)) (za_E_27 g cy M1 0 0) rfl vY_X10_heats vV_X10_heats (Nat.le_of_ble_eq_true rfl) (by exact ⟨(Nat.le_of_ble_eq_true rfl), (Nat.le_of_ble_eq_true rfl)⟩) (by exact ⟨(Nat.le_of_ble_eq_true rfl), (Nat.le_of_ble_eq_true rfl)⟩) dL_law_1013 rfl (fun r2 M2 h2 => ?_)
  obtain ⟨rfl, hI2⟩ := h2
  exact zt_icmp_eq C 1545 dL_law_1016 (by decide) (fun _ => kk M2 hI2) (fun q => absurd rfl q)
set_option maxRecDepth 100000 in
set_option maxHeartbeats 4000000 in
theorem zL_23 (C : za_C p s m #[Value.ref b] c code 4 RL g D cy) (hX : va_X b L xs s s.heap) (hbl : b < s.heap.size) (hbA : ¬ za_A g b) (hL : L ≤ 3072) {M : za_M} {n : Nat} (hI : zI M) (hn : n + 6 ≤ L) (kk : ∀ M', zI M' → zt p l e room_1 s m #[Value.ref b] below meth c 133 2551 Q g D cy 4 M' 1545 (zl_lv b g n) []) : zt p l e room_1 s m #[Value.ref b] below meth c 133 2551 Q g D cy 4 M 1021 (zl_lv b g n) [] := by
  have h := zT_burnt (xs (n + 1)) M (fun r1 r2 M2 => r1 = r2 ∧ zI M2) hI (fun v M' h => ⟨rfl, h⟩)
  refine zt_aload_n C 1 dL_law_1021 rfl rfl ?_
  refine zl_arg C hX hbl hbA hL (k := 1) (by omega) dL_law_1022 dL_law_1023 dL_law_1024 dL_law_1025 dL_law_1026 ?_
  refine zt_cVi C [.int (xs (n + 1))] (m_X9_burnt C.2.2.2.2.2.2 h) (za_mem (j := 0) rfl (by decide) (by decide)) (za_E_0 g cy M 0 0) rfl vY_X9_burnt vV_X9_burnt (Nat.le_of_ble_eq_true rfl) (by exact ⟨(Nat.le_of_ble_eq_true rfl), (Nat.le_of_ble_eq_true rfl)⟩) (by exact ⟨(Nat.le_of_ble_eq_true rfl), (Nat.le_of_ble_eq_true rfl)⟩) dL_law_1027 rfl (fun r1 M1 h1 => ?_)
  refine zt_aload_n C 2 dL_law_1030 rfl rfl ?_
  refine zl_arg C hX hbl hbA hL (k := 1) (by omega) dL_law_1031 dL_law_1032 dL_law_1033 dL_law_1034 dL_law_1035 ?_
  refine zt_cVi C [.int (xs (n + 1))] (m_X10_burnt C.2.2.2.2.2.2 h1) (za_mem (j := 27) rfl (by decide) (by decide)) (za_E_27 g cy M1 0 0) rfl vY_X10_burnt vV_X10_burnt (Nat.le_of_ble_eq_true rfl) (by exact ⟨(Nat.le_of_ble_eq_true rfl), (Nat.le_of_ble_eq_true rfl)⟩) (by exact ⟨(Nat.le_of_ble_eq_true rfl), (Nat.le_of_ble_eq_true rfl)⟩) dL_law_1036 rfl (fun r2 M2 h2 => ?_)
  obtain ⟨rfl, hI2⟩ := h2
  exact zt_icmp_eq C 1545 dL_law_1039 (by decide) (fun _ => kk M2 hI2) (fun q => absurd rfl q)
set_option maxRecDepth 100000 in
set_option maxHeartbeats 4000000 in
theorem zL_24 (C : za_C p s m #[Value.ref b] c code 4 RL g D cy) (hX : va_X b L xs s s.heap) (hbl : b < s.heap.size) (hbA : ¬ za_A g b) (hL : L ≤ 3072) {M : za_M} {n : Nat} (hI : zI M) (hn : n + 6 ≤ L) (kk : ∀ M', zI M' → zt p l e room_1 s m #[Value.ref b] below meth c 133 2551 Q g D cy 4 M' 1545 (zl_lv b g n) []) : zt p l e room_1 s m #[Value.ref b] below meth c 133 2551 Q g D cy 4 M 1044 (zl_lv b g n) [] := by
  have h := zT_round M (fun r1 r2 M2 => r1 = r2 ∧ zI M2) hI (fun v M' h => ⟨rfl, h⟩)
  refine zt_aload_n C 1 dL_law_1044 rfl rfl ?_
  refine zt_cVi C [] (m_X9_round C.2.2.2.2.2.2 h) (za_mem (j := 0) rfl (by decide) (by decide)) (za_E_0 g cy M 0 0) rfl vY_X9_round vV_X9_round (Nat.le_of_ble_eq_true rfl) (by exact ⟨(Nat.le_of_ble_eq_true rfl), (Nat.le_of_ble_eq_true rfl)⟩) (by exact ⟨(Nat.le_of_ble_eq_true rfl), (Nat.le_of_ble_eq_true rfl)⟩) dL_law_1045 rfl (fun r1 M1 h1 => ?_)
  refine zt_aload_n C 2 dL_law_1048 rfl rfl ?_
  refine zt_cVi C [] (m_X10_round C.2.2.2.2.2.2 h1) (za_mem (j := 27) rfl (by decide) (by decide)) (za_E_27 g cy M1 0 0) rfl vY_X10_round vV_X10_round (Nat.le_of_ble_eq_true rfl) (by exact ⟨(Nat.le_of_ble_eq_true rfl), (Nat.le_of_ble_eq_true rfl)⟩) (by exact ⟨(Nat.le_of_ble_eq_true rfl), (Nat.le_of_ble_eq_true rfl)⟩) dL_law_1049 rfl (fun r2 M2 h2 => ?_)
  obtain ⟨rfl, hI2⟩ := h2
  exact zt_icmp_eq C 1545 dL_law_1052 (by decide) (fun _ => kk M2 hI2) (fun q => absurd rfl q)
set_option maxRecDepth 100000 in
set_option maxHeartbeats 4000000 in
theorem zL_25 (C : za_C p s m #[Value.ref b] c code 4 RL g D cy) (hX : va_X b L xs s s.heap) (hbl : b < s.heap.size) (hbA : ¬ za_A g b) (hL : L ≤ 3072) {M : za_M} {n : Nat} (hI : zI M) (hn : n + 6 ≤ L) (kk : ∀ M', zI M' → zt p l e room_1 s m #[Value.ref b] below meth c 133 2551 Q g D cy 4 M' 1545 (zl_lv b g n) []) : zt p l e room_1 s m #[Value.ref b] below meth c 133 2551 Q g D cy 4 M 1057 (zl_lv b g n) [] := by
  have h := zT_lender (xs (n + 1)) (xs (n + 2)) (xs (n + 3)) (xs (n + 4)) M (fun r1 r2 M2 => r1 = r2 ∧ zI M2) hI (fun v M' h => ⟨rfl, h⟩)
  refine zt_aload_n C 1 dL_law_1057 rfl rfl ?_
  refine zl_arg C hX hbl hbA hL (k := 1) (by omega) dL_law_1058 dL_law_1059 dL_law_1060 dL_law_1061 dL_law_1062 ?_
  refine zl_arg C hX hbl hbA hL (k := 2) (by omega) dL_law_1063 dL_law_1064 dL_law_1065 dL_law_1066 dL_law_1067 ?_
  refine zl_arg C hX hbl hbA hL (k := 3) (by omega) dL_law_1068 dL_law_1069 dL_law_1070 dL_law_1071 dL_law_1072 ?_
  refine zl_arg C hX hbl hbA hL (k := 4) (by omega) dL_law_1073 dL_law_1074 dL_law_1075 dL_law_1076 dL_law_1077 ?_
  refine zt_cVi C [.int (xs (n + 1)), .int (xs (n + 2)), .int (xs (n + 3)), .int (xs (n + 4))] (m_X9_lender C.2.2.2.2.2.2 h) (za_mem (j := 0) rfl (by decide) (by decide)) (za_E_0 g cy M 0 0) rfl vY_X9_lender vV_X9_lender (Nat.le_of_ble_eq_true rfl) (by exact ⟨(Nat.le_of_ble_eq_true rfl), (Nat.le_of_ble_eq_true rfl)⟩) (by exact ⟨(Nat.le_of_ble_eq_true rfl), (Nat.le_of_ble_eq_true rfl)⟩) dL_law_1078 rfl (fun r1 M1 h1 => ?_)
  refine zt_aload_n C 2 dL_law_1081 rfl rfl ?_
  refine zl_arg C hX hbl hbA hL (k := 1) (by omega) dL_law_1082 dL_law_1083 dL_law_1084 dL_law_1085 dL_law_1086 ?_
  refine zl_arg C hX hbl hbA hL (k := 2) (by omega) dL_law_1087 dL_law_1088 dL_law_1089 dL_law_1090 dL_law_1091 ?_
  refine zl_arg C hX hbl hbA hL (k := 3) (by omega) dL_law_1092 dL_law_1093 dL_law_1094 dL_law_1095 dL_law_1096 ?_
  refine zl_arg C hX hbl hbA hL (k := 4) (by omega) dL_law_1097 dL_law_1098 dL_law_1099 dL_law_1100 dL_law_1101 ?_
  refine zt_cVi C [.int (xs (n + 1)), .int (xs (n + 2)), .int (xs (n + 3)), .int (xs (n + 4))] (m_X10_lender C.2.2.2.2.2.2 h1) (za_mem (j := 27) rfl (by decide) (by decide)) (za_E_27 g cy M1 0 0) rfl vY_X10_lender vV_X10_lender (Nat.le_of_ble_eq_true rfl) (by exact ⟨(Nat.le_of_ble_eq_true rfl), (Nat.le_of_ble_eq_true rfl)⟩) (by exact ⟨(Nat.le_of_ble_eq_true rfl), (Nat.le_of_ble_eq_true rfl)⟩) dL_law_1102 rfl (fun r2 M2 h2 => ?_)
  obtain ⟨rfl, hI2⟩ := h2
  exact zt_icmp_eq C 1545 dL_law_1105 (by decide) (fun _ => kk M2 hI2) (fun q => absurd rfl q)
set_option maxRecDepth 100000 in
set_option maxHeartbeats 4000000 in
theorem zL_26 (C : za_C p s m #[Value.ref b] c code 4 RL g D cy) (hX : va_X b L xs s s.heap) (hbl : b < s.heap.size) (hbA : ¬ za_A g b) (hL : L ≤ 3072) {M : za_M} {n : Nat} (hI : zI M) (hn : n + 6 ≤ L) (kk : ∀ M', zI M' → zt p l e room_1 s m #[Value.ref b] below meth c 133 2551 Q g D cy 4 M' 1545 (zl_lv b g n) []) : zt p l e room_1 s m #[Value.ref b] below meth c 133 2551 Q g D cy 4 M 1110 (zl_lv b g n) [] := by
  have h := zT_odds (xs (n + 1)) (xs (n + 2)) (xs (n + 3)) M (fun r1 r2 M2 => r1 = r2 ∧ zI M2) hI (fun v M' h => ⟨rfl, h⟩)
  refine zt_aload_n C 1 dL_law_1110 rfl rfl ?_
  refine zl_arg C hX hbl hbA hL (k := 1) (by omega) dL_law_1111 dL_law_1112 dL_law_1113 dL_law_1114 dL_law_1115 ?_
  refine zl_arg C hX hbl hbA hL (k := 2) (by omega) dL_law_1116 dL_law_1117 dL_law_1118 dL_law_1119 dL_law_1120 ?_
  refine zl_arg C hX hbl hbA hL (k := 3) (by omega) dL_law_1121 dL_law_1122 dL_law_1123 dL_law_1124 dL_law_1125 ?_
  refine zt_cVi C [.int (xs (n + 1)), .int (xs (n + 2)), .int (xs (n + 3))] (m_X9_odds C.2.2.2.2.2.2 h) (za_mem (j := 0) rfl (by decide) (by decide)) (za_E_0 g cy M 0 0) rfl vY_X9_odds vV_X9_odds (Nat.le_of_ble_eq_true rfl) (by exact ⟨(Nat.le_of_ble_eq_true rfl), (Nat.le_of_ble_eq_true rfl)⟩) (by exact ⟨(Nat.le_of_ble_eq_true rfl), (Nat.le_of_ble_eq_true rfl)⟩) dL_law_1126 rfl (fun r1 M1 h1 => ?_)
  refine zt_aload_n C 2 dL_law_1129 rfl rfl ?_
  refine zl_arg C hX hbl hbA hL (k := 1) (by omega) dL_law_1130 dL_law_1131 dL_law_1132 dL_law_1133 dL_law_1134 ?_
  refine zl_arg C hX hbl hbA hL (k := 2) (by omega) dL_law_1135 dL_law_1136 dL_law_1137 dL_law_1138 dL_law_1139 ?_
  refine zl_arg C hX hbl hbA hL (k := 3) (by omega) dL_law_1140 dL_law_1141 dL_law_1142 dL_law_1143 dL_law_1144 ?_
  refine zt_cVi C [.int (xs (n + 1)), .int (xs (n + 2)), .int (xs (n + 3))] (m_X10_odds C.2.2.2.2.2.2 h1) (za_mem (j := 27) rfl (by decide) (by decide)) (za_E_27 g cy M1 0 0) rfl vY_X10_odds vV_X10_odds (Nat.le_of_ble_eq_true rfl) (by exact ⟨(Nat.le_of_ble_eq_true rfl), (Nat.le_of_ble_eq_true rfl)⟩) (by exact ⟨(Nat.le_of_ble_eq_true rfl), (Nat.le_of_ble_eq_true rfl)⟩) dL_law_1145 rfl (fun r2 M2 h2 => ?_)
  obtain ⟨rfl, hI2⟩ := h2
  exact zt_icmp_eq C 1545 dL_law_1148 (by decide) (fun _ => kk M2 hI2) (fun q => absurd rfl q)
set_option maxRecDepth 100000 in
set_option maxHeartbeats 4000000 in
theorem zL_27 (C : za_C p s m #[Value.ref b] c code 4 RL g D cy) (hX : va_X b L xs s s.heap) (hbl : b < s.heap.size) (hbA : ¬ za_A g b) (hL : L ≤ 3072) {M : za_M} {n : Nat} (hI : zI M) (hn : n + 6 ≤ L) (kk : ∀ M', zI M' → zt p l e room_1 s m #[Value.ref b] below meth c 133 2551 Q g D cy 4 M' 1545 (zl_lv b g n) []) : zt p l e room_1 s m #[Value.ref b] below meth c 133 2551 Q g D cy 4 M 1153 (zl_lv b g n) [] := by
  have h := zT_seed (xs (n + 1)) M (fun r1 r2 M2 => r1 = r2 ∧ zI M2) hI (fun v M' h => ⟨rfl, h⟩)
  refine zt_aload_n C 1 dL_law_1153 rfl rfl ?_
  refine zl_arg C hX hbl hbA hL (k := 1) (by omega) dL_law_1154 dL_law_1155 dL_law_1156 dL_law_1157 dL_law_1158 ?_
  refine zt_cVi C [.int (xs (n + 1))] (m_X9_seed C.2.2.2.2.2.2 h) (za_mem (j := 0) rfl (by decide) (by decide)) (za_E_0 g cy M 0 0) rfl vY_X9_seed vV_X9_seed (Nat.le_of_ble_eq_true rfl) (by exact ⟨(Nat.le_of_ble_eq_true rfl), (Nat.le_of_ble_eq_true rfl)⟩) (by exact ⟨(Nat.le_of_ble_eq_true rfl), (Nat.le_of_ble_eq_true rfl)⟩) dL_law_1159 rfl (fun r1 M1 h1 => ?_)
  refine zt_aload_n C 2 dL_law_1162 rfl rfl ?_
  refine zl_arg C hX hbl hbA hL (k := 1) (by omega) dL_law_1163 dL_law_1164 dL_law_1165 dL_law_1166 dL_law_1167 ?_
  refine zt_cVi C [.int (xs (n + 1))] (m_X10_seed C.2.2.2.2.2.2 h1) (za_mem (j := 27) rfl (by decide) (by decide)) (za_E_27 g cy M1 0 0) rfl vY_X10_seed vV_X10_seed (Nat.le_of_ble_eq_true rfl) (by exact ⟨(Nat.le_of_ble_eq_true rfl), (Nat.le_of_ble_eq_true rfl)⟩) (by exact ⟨(Nat.le_of_ble_eq_true rfl), (Nat.le_of_ble_eq_true rfl)⟩) dL_law_1168 rfl (fun r2 M2 h2 => ?_)
  obtain ⟨rfl, hI2⟩ := h2
  exact zt_icmp_eq C 1545 dL_law_1171 (by decide) (fun _ => kk M2 hI2) (fun q => absurd rfl q)
set_option maxRecDepth 100000 in
set_option maxHeartbeats 4000000 in
theorem zL_28 (C : za_C p s m #[Value.ref b] c code 4 RL g D cy) (hX : va_X b L xs s s.heap) (hbl : b < s.heap.size) (hbA : ¬ za_A g b) (hL : L ≤ 3072) {M : za_M} {n : Nat} (hI : zI M) (hn : n + 6 ≤ L) (kk : ∀ M', zI M' → zt p l e room_1 s m #[Value.ref b] below meth c 133 2551 Q g D cy 4 M' 1545 (zl_lv b g n) []) : zt p l e room_1 s m #[Value.ref b] below meth c 133 2551 Q g D cy 4 M 1176 (zl_lv b g n) [] := by
  have h := zT_voice (xs (n + 1)) (xs (n + 2)) (xs (n + 3)) M (fun r1 r2 M2 => r1 = r2 ∧ zI M2) hI (fun v M' h => ⟨rfl, h⟩)
  refine zt_aload_n C 1 dL_law_1176 rfl rfl ?_
  refine zl_arg C hX hbl hbA hL (k := 1) (by omega) dL_law_1177 dL_law_1178 dL_law_1179 dL_law_1180 dL_law_1181 ?_
  refine zl_arg C hX hbl hbA hL (k := 2) (by omega) dL_law_1182 dL_law_1183 dL_law_1184 dL_law_1185 dL_law_1186 ?_
  refine zl_arg C hX hbl hbA hL (k := 3) (by omega) dL_law_1187 dL_law_1188 dL_law_1189 dL_law_1190 dL_law_1191 ?_
  refine zt_cVi C [.int (xs (n + 1)), .int (xs (n + 2)), .int (xs (n + 3))] (m_X9_voice C.2.2.2.2.2.2 h) (za_mem (j := 0) rfl (by decide) (by decide)) (za_E_0 g cy M 0 0) rfl vY_X9_voice vV_X9_voice (Nat.le_of_ble_eq_true rfl) (by exact ⟨(Nat.le_of_ble_eq_true rfl), (Nat.le_of_ble_eq_true rfl)⟩) (by exact ⟨(Nat.le_of_ble_eq_true rfl), (Nat.le_of_ble_eq_true rfl)⟩) dL_law_1192 rfl (fun r1 M1 h1 => ?_)
  refine zt_aload_n C 2 dL_law_1195 rfl rfl ?_
  refine zl_arg C hX hbl hbA hL (k := 1) (by omega) dL_law_1196 dL_law_1197 dL_law_1198 dL_law_1199 dL_law_1200 ?_
  refine zl_arg C hX hbl hbA hL (k := 2) (by omega) dL_law_1201 dL_law_1202 dL_law_1203 dL_law_1204 dL_law_1205 ?_
  refine zl_arg C hX hbl hbA hL (k := 3) (by omega) dL_law_1206 dL_law_1207 dL_law_1208 dL_law_1209 dL_law_1210 ?_
  refine zt_cVi C [.int (xs (n + 1)), .int (xs (n + 2)), .int (xs (n + 3))] (m_X10_voice C.2.2.2.2.2.2 h1) (za_mem (j := 27) rfl (by decide) (by decide)) (za_E_27 g cy M1 0 0) rfl vY_X10_voice vV_X10_voice (Nat.le_of_ble_eq_true rfl) (by exact ⟨(Nat.le_of_ble_eq_true rfl), (Nat.le_of_ble_eq_true rfl)⟩) (by exact ⟨(Nat.le_of_ble_eq_true rfl), (Nat.le_of_ble_eq_true rfl)⟩) dL_law_1211 rfl (fun r2 M2 h2 => ?_)
  obtain ⟨rfl, hI2⟩ := h2
  exact zt_icmp_eq C 1545 dL_law_1214 (by decide) (fun _ => kk M2 hI2) (fun q => absurd rfl q)
set_option maxRecDepth 100000 in
set_option maxHeartbeats 4000000 in
theorem zL_29 (C : za_C p s m #[Value.ref b] c code 4 RL g D cy) (hX : va_X b L xs s s.heap) (hbl : b < s.heap.size) (hbA : ¬ za_A g b) (hL : L ≤ 3072) {M : za_M} {n : Nat} (hI : zI M) (hn : n + 6 ≤ L) (kk : ∀ M', zI M' → zt p l e room_1 s m #[Value.ref b] below meth c 133 2551 Q g D cy 4 M' 1545 (zl_lv b g n) []) : zt p l e room_1 s m #[Value.ref b] below meth c 133 2551 Q g D cy 4 M 1219 (zl_lv b g n) [] := by
  have h := zT_trace (xs (n + 1)) M (fun r1 r2 M2 => r1 = r2 ∧ zI M2) hI (fun v M' h => ⟨rfl, h⟩)
  refine zt_aload_n C 1 dL_law_1219 rfl rfl ?_
  refine zl_arg C hX hbl hbA hL (k := 1) (by omega) dL_law_1220 dL_law_1221 dL_law_1222 dL_law_1223 dL_law_1224 ?_
  refine zt_cVi C [.int (xs (n + 1))] (m_X9_trace C.2.2.2.2.2.2 h) (za_mem (j := 0) rfl (by decide) (by decide)) (za_E_0 g cy M 0 0) rfl vY_X9_trace vV_X9_trace (Nat.le_of_ble_eq_true rfl) (by exact ⟨(Nat.le_of_ble_eq_true rfl), (Nat.le_of_ble_eq_true rfl)⟩) (by exact ⟨(Nat.le_of_ble_eq_true rfl), (Nat.le_of_ble_eq_true rfl)⟩) dL_law_1225 rfl (fun r1 M1 h1 => ?_)
  refine zt_aload_n C 2 dL_law_1228 rfl rfl ?_
  refine zl_arg C hX hbl hbA hL (k := 1) (by omega) dL_law_1229 dL_law_1230 dL_law_1231 dL_law_1232 dL_law_1233 ?_
  refine zt_cVi C [.int (xs (n + 1))] (m_X10_trace C.2.2.2.2.2.2 h1) (za_mem (j := 27) rfl (by decide) (by decide)) (za_E_27 g cy M1 0 0) rfl vY_X10_trace vV_X10_trace (Nat.le_of_ble_eq_true rfl) (by exact ⟨(Nat.le_of_ble_eq_true rfl), (Nat.le_of_ble_eq_true rfl)⟩) (by exact ⟨(Nat.le_of_ble_eq_true rfl), (Nat.le_of_ble_eq_true rfl)⟩) dL_law_1234 rfl (fun r2 M2 h2 => ?_)
  obtain ⟨rfl, hI2⟩ := h2
  exact zt_icmp_eq C 1545 dL_law_1237 (by decide) (fun _ => kk M2 hI2) (fun q => absurd rfl q)
set_option maxRecDepth 100000 in
set_option maxHeartbeats 4000000 in
theorem zL_30 (C : za_C p s m #[Value.ref b] c code 4 RL g D cy) (hX : va_X b L xs s s.heap) (hbl : b < s.heap.size) (hbA : ¬ za_A g b) (hL : L ≤ 3072) {M : za_M} {n : Nat} (hI : zI M) (hn : n + 6 ≤ L) (kk : ∀ M', zI M' → zt p l e room_1 s m #[Value.ref b] below meth c 133 2551 Q g D cy 4 M' 1545 (zl_lv b g n) []) : zt p l e room_1 s m #[Value.ref b] below meth c 133 2551 Q g D cy 4 M 1242 (zl_lv b g n) [] := by
  have h := zT_sheet (xs (n + 1)) (xs (n + 2)) (xs (n + 3)) M (fun r1 r2 M2 => r1 = r2 ∧ zI M2) hI (fun v M' h => ⟨rfl, h⟩)
  refine zt_aload_n C 1 dL_law_1242 rfl rfl ?_
  refine zl_arg C hX hbl hbA hL (k := 1) (by omega) dL_law_1243 dL_law_1244 dL_law_1245 dL_law_1246 dL_law_1247 ?_
  refine zl_arg C hX hbl hbA hL (k := 2) (by omega) dL_law_1248 dL_law_1249 dL_law_1250 dL_law_1251 dL_law_1252 ?_
  refine zl_arg C hX hbl hbA hL (k := 3) (by omega) dL_law_1253 dL_law_1254 dL_law_1255 dL_law_1256 dL_law_1257 ?_
  refine zt_cVi C [.int (xs (n + 1)), .int (xs (n + 2)), .int (xs (n + 3))] (m_X9_sheet C.2.2.2.2.2.2 h) (za_mem (j := 0) rfl (by decide) (by decide)) (za_E_0 g cy M 0 0) rfl vY_X9_sheet vV_X9_sheet (Nat.le_of_ble_eq_true rfl) (by exact ⟨(Nat.le_of_ble_eq_true rfl), (Nat.le_of_ble_eq_true rfl)⟩) (by exact ⟨(Nat.le_of_ble_eq_true rfl), (Nat.le_of_ble_eq_true rfl)⟩) dL_law_1258 rfl (fun r1 M1 h1 => ?_)
  refine zt_aload_n C 2 dL_law_1261 rfl rfl ?_
  refine zl_arg C hX hbl hbA hL (k := 1) (by omega) dL_law_1262 dL_law_1263 dL_law_1264 dL_law_1265 dL_law_1266 ?_
  refine zl_arg C hX hbl hbA hL (k := 2) (by omega) dL_law_1267 dL_law_1268 dL_law_1269 dL_law_1270 dL_law_1271 ?_
  refine zl_arg C hX hbl hbA hL (k := 3) (by omega) dL_law_1272 dL_law_1273 dL_law_1274 dL_law_1275 dL_law_1276 ?_
  refine zt_cVi C [.int (xs (n + 1)), .int (xs (n + 2)), .int (xs (n + 3))] (m_X10_sheet C.2.2.2.2.2.2 h1) (za_mem (j := 27) rfl (by decide) (by decide)) (za_E_27 g cy M1 0 0) rfl vY_X10_sheet vV_X10_sheet (Nat.le_of_ble_eq_true rfl) (by exact ⟨(Nat.le_of_ble_eq_true rfl), (Nat.le_of_ble_eq_true rfl)⟩) (by exact ⟨(Nat.le_of_ble_eq_true rfl), (Nat.le_of_ble_eq_true rfl)⟩) dL_law_1277 rfl (fun r2 M2 h2 => ?_)
  obtain ⟨rfl, hI2⟩ := h2
  exact zt_icmp_eq C 1545 dL_law_1280 (by decide) (fun _ => kk M2 hI2) (fun q => absurd rfl q)
set_option maxRecDepth 100000 in
set_option maxHeartbeats 4000000 in
theorem zL_31 (C : za_C p s m #[Value.ref b] c code 4 RL g D cy) (hX : va_X b L xs s s.heap) (hbl : b < s.heap.size) (hbA : ¬ za_A g b) (hL : L ≤ 3072) {M : za_M} {n : Nat} (hI : zI M) (hn : n + 6 ≤ L) (kk : ∀ M', zI M' → zt p l e room_1 s m #[Value.ref b] below meth c 133 2551 Q g D cy 4 M' 1545 (zl_lv b g n) []) : zt p l e room_1 s m #[Value.ref b] below meth c 133 2551 Q g D cy 4 M 1285 (zl_lv b g n) [] := by
  have h := zT_put (xs (n + 1)) (xs (n + 2)) (xs (n + 3)) M (fun r1 r2 M2 => r1 = r2 ∧ zI M2) hI (fun v M' h => ⟨rfl, h⟩)
  refine zt_aload_n C 1 dL_law_1285 rfl rfl ?_
  refine zl_arg C hX hbl hbA hL (k := 1) (by omega) dL_law_1286 dL_law_1287 dL_law_1288 dL_law_1289 dL_law_1290 ?_
  refine zl_arg C hX hbl hbA hL (k := 2) (by omega) dL_law_1291 dL_law_1292 dL_law_1293 dL_law_1294 dL_law_1295 ?_
  refine zl_arg C hX hbl hbA hL (k := 3) (by omega) dL_law_1296 dL_law_1297 dL_law_1298 dL_law_1299 dL_law_1300 ?_
  refine zt_cVi C [.int (xs (n + 1)), .int (xs (n + 2)), .int (xs (n + 3))] (m_X9_put C.2.2.2.2.2.2 h) (za_mem (j := 0) rfl (by decide) (by decide)) (za_E_0 g cy M 0 0) rfl vY_X9_put vV_X9_put (Nat.le_of_ble_eq_true rfl) (by exact ⟨(Nat.le_of_ble_eq_true rfl), (Nat.le_of_ble_eq_true rfl)⟩) (by exact ⟨(Nat.le_of_ble_eq_true rfl), (Nat.le_of_ble_eq_true rfl)⟩) dL_law_1301 rfl (fun r1 M1 h1 => ?_)
  refine zt_aload_n C 2 dL_law_1304 rfl rfl ?_
  refine zl_arg C hX hbl hbA hL (k := 1) (by omega) dL_law_1305 dL_law_1306 dL_law_1307 dL_law_1308 dL_law_1309 ?_
  refine zl_arg C hX hbl hbA hL (k := 2) (by omega) dL_law_1310 dL_law_1311 dL_law_1312 dL_law_1313 dL_law_1314 ?_
  refine zl_arg C hX hbl hbA hL (k := 3) (by omega) dL_law_1315 dL_law_1316 dL_law_1317 dL_law_1318 dL_law_1319 ?_
  refine zt_cVi C [.int (xs (n + 1)), .int (xs (n + 2)), .int (xs (n + 3))] (m_X10_put C.2.2.2.2.2.2 h1) (za_mem (j := 27) rfl (by decide) (by decide)) (za_E_27 g cy M1 0 0) rfl vY_X10_put vV_X10_put (Nat.le_of_ble_eq_true rfl) (by exact ⟨(Nat.le_of_ble_eq_true rfl), (Nat.le_of_ble_eq_true rfl)⟩) (by exact ⟨(Nat.le_of_ble_eq_true rfl), (Nat.le_of_ble_eq_true rfl)⟩) dL_law_1320 rfl (fun r2 M2 h2 => ?_)
  obtain ⟨rfl, hI2⟩ := h2
  exact zt_icmp_eq C 1545 dL_law_1323 (by decide) (fun _ => kk M2 hI2) (fun q => absurd rfl q)
set_option maxRecDepth 100000 in
set_option maxHeartbeats 4000000 in
theorem zL_32 (C : za_C p s m #[Value.ref b] c code 4 RL g D cy) (hX : va_X b L xs s s.heap) (hbl : b < s.heap.size) (hbA : ¬ za_A g b) (hL : L ≤ 3072) {M : za_M} {n : Nat} (hI : zI M) (hn : n + 6 ≤ L) (kk : ∀ M', zI M' → zt p l e room_1 s m #[Value.ref b] below meth c 133 2551 Q g D cy 4 M' 1545 (zl_lv b g n) []) : zt p l e room_1 s m #[Value.ref b] below meth c 133 2551 Q g D cy 4 M 1328 (zl_lv b g n) [] := by
  have h := zT_move (xs (n + 1)) (xs (n + 2)) (xs (n + 3)) (xs (n + 4)) (xs (n + 5)) M (fun r1 r2 M2 => r1 = r2 ∧ zI M2) hI (fun v M' h => ⟨rfl, h⟩)
  refine zt_aload_n C 1 dL_law_1328 rfl rfl ?_
  refine zl_arg C hX hbl hbA hL (k := 1) (by omega) dL_law_1329 dL_law_1330 dL_law_1331 dL_law_1332 dL_law_1333 ?_
  refine zl_arg C hX hbl hbA hL (k := 2) (by omega) dL_law_1334 dL_law_1335 dL_law_1336 dL_law_1337 dL_law_1338 ?_
  refine zl_arg C hX hbl hbA hL (k := 3) (by omega) dL_law_1339 dL_law_1340 dL_law_1341 dL_law_1342 dL_law_1343 ?_
  refine zl_arg C hX hbl hbA hL (k := 4) (by omega) dL_law_1344 dL_law_1345 dL_law_1346 dL_law_1347 dL_law_1348 ?_
  refine zl_arg C hX hbl hbA hL (k := 5) (by omega) dL_law_1349 dL_law_1350 dL_law_1351 dL_law_1352 dL_law_1353 ?_
  refine zt_cVi C [.int (xs (n + 1)), .int (xs (n + 2)), .int (xs (n + 3)), .int (xs (n + 4)), .int (xs (n + 5))] (m_X9_move C.2.2.2.2.2.2 h) (za_mem (j := 0) rfl (by decide) (by decide)) (za_E_0 g cy M 0 0) rfl vY_X9_move vV_X9_move (Nat.le_of_ble_eq_true rfl) (by exact ⟨(Nat.le_of_ble_eq_true rfl), (Nat.le_of_ble_eq_true rfl)⟩) (by exact ⟨(Nat.le_of_ble_eq_true rfl), (Nat.le_of_ble_eq_true rfl)⟩) dL_law_1354 rfl (fun r1 M1 h1 => ?_)
  refine zt_aload_n C 2 dL_law_1357 rfl rfl ?_
  refine zl_arg C hX hbl hbA hL (k := 1) (by omega) dL_law_1358 dL_law_1359 dL_law_1360 dL_law_1361 dL_law_1362 ?_
  refine zl_arg C hX hbl hbA hL (k := 2) (by omega) dL_law_1363 dL_law_1364 dL_law_1365 dL_law_1366 dL_law_1367 ?_
  refine zl_arg C hX hbl hbA hL (k := 3) (by omega) dL_law_1368 dL_law_1369 dL_law_1370 dL_law_1371 dL_law_1372 ?_
  refine zl_arg C hX hbl hbA hL (k := 4) (by omega) dL_law_1373 dL_law_1374 dL_law_1375 dL_law_1376 dL_law_1377 ?_
  refine zl_arg C hX hbl hbA hL (k := 5) (by omega) dL_law_1378 dL_law_1379 dL_law_1380 dL_law_1381 dL_law_1382 ?_
  refine zt_cVi C [.int (xs (n + 1)), .int (xs (n + 2)), .int (xs (n + 3)), .int (xs (n + 4)), .int (xs (n + 5))] (m_X10_move C.2.2.2.2.2.2 h1) (za_mem (j := 27) rfl (by decide) (by decide)) (za_E_27 g cy M1 0 0) rfl vY_X10_move vV_X10_move (Nat.le_of_ble_eq_true rfl) (by exact ⟨(Nat.le_of_ble_eq_true rfl), (Nat.le_of_ble_eq_true rfl)⟩) (by exact ⟨(Nat.le_of_ble_eq_true rfl), (Nat.le_of_ble_eq_true rfl)⟩) dL_law_1383 rfl (fun r2 M2 h2 => ?_)
  obtain ⟨rfl, hI2⟩ := h2
  exact zt_icmp_eq C 1545 dL_law_1386 (by decide) (fun _ => kk M2 hI2) (fun q => absurd rfl q)
end ZLW
