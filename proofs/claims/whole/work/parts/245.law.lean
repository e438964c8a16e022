section LAW
variable {p : Program} {l : Launch} {e : Env} {s : State} {m : MethodId} {below : List Frame} {meth : Method} {c : Code} {b L : Nat} {xs : Nat → Int32} {G : xG} {S : xS} {H : Heap} {locs : List Loc} {ls : Array Slot} {Q : State → Prop}
theorem law_29 (C0 : lw_At p s m meth c b L xs) (X : xC p s m #[Value.ref b] c G RL code 4) (hbA : ¬ xA G b) (hL : L ≤ 3072) {i : Nat} (hi : i + 6 ≤ L) (hI : Inv S) (hP : xP G S H) (hS : va_S (xA G) s.heap H locs) (hl : lv_has ls 4 (lawl b G i)) (kk : ∀ (S2 : xS) (H : Heap) (locs : List Loc), Inv S2 → xP G S2 H → va_S (xA G) s.heap H locs → W p l e room_1 s m #[Value.ref b] below meth c H locs 600000 7302250 Q (F0 m 1351 ls [])) : W p l e room_1 s m #[Value.ref b] below meth c H locs 600000 7302250 Q (F0 m 1066 ls []) := by
  obtain ⟨hx, hb, hml, hown, hts, hE⟩ := id X
  obtain ⟨r, S1, S2, h1, h2, h3⟩ := op_sheet (n := 200) hI (by decide) (xs (i + 1)) (xs (i + 2)) (xs (i + 3))
  refine lv_aload_n hx hb dL_law_1066 rfl (lv_at hl 1 rfl) ?_
  refine law_ld (k := 1) C0 hbA hS hl hL hi (by decide) dL_law_1067 dL_law_1068 dL_law_1069 (by decide) dL_law_1070 dL_law_1071 ?_
  refine law_ld (k := 2) C0 hbA hS hl hL hi (by decide) dL_law_1072 dL_law_1073 dL_law_1074 (by decide) dL_law_1075 dL_law_1076 ?_
  refine law_ld (k := 3) C0 hbA hS hl hL hi (by decide) dL_law_1077 dL_law_1078 dL_law_1079 (by decide) dL_law_1080 dL_law_1081 ?_
  refine x_cVi (As := [.int (xs (i + 1)), .int (xs (i + 2)), .int (xs (i + 3))]) (rest := []) X hP hS kc_L_136 (c_X8_sheet l G 200 S (xs (i + 1)) (xs (i + 2)) (xs (i + 3)) r S1 h1) ⟨Nat.le_of_ble_eq_true rfl, Nat.le_of_ble_eq_true rfl⟩ (by decide) rfl rfl rfl hl.1 rfl (Nat.le_of_ble_eq_true rfl) ⟨Nat.le_of_ble_eq_true rfl, Nat.le_of_ble_eq_true rfl⟩ dL_law_1082 (fun H locs hP hS => ?_)
  refine lv_aload_n hx hb dL_law_1085 rfl (lv_at hl 2 rfl) ?_
  refine law_ld (k := 1) C0 hbA hS hl hL hi (by decide) dL_law_1086 dL_law_1087 dL_law_1088 (by decide) dL_law_1089 dL_law_1090 ?_
  refine law_ld (k := 2) C0 hbA hS hl hL hi (by decide) dL_law_1091 dL_law_1092 dL_law_1093 (by decide) dL_law_1094 dL_law_1095 ?_
  refine law_ld (k := 3) C0 hbA hS hl hL hi (by decide) dL_law_1096 dL_law_1097 dL_law_1098 (by decide) dL_law_1099 dL_law_1100 ?_
  refine x_cVi (As := [.int (xs (i + 1)), .int (xs (i + 2)), .int (xs (i + 3))]) (rest := [.int r]) X hP hS kc_L_139 (c_X9_sheet l G 200 S1 (xs (i + 1)) (xs (i + 2)) (xs (i + 3)) r S2 h2) ⟨Nat.le_of_ble_eq_true rfl, Nat.le_of_ble_eq_true rfl⟩ (by decide) rfl rfl rfl hl.1 rfl (Nat.le_of_ble_eq_true rfl) ⟨Nat.le_of_ble_eq_true rfl, Nat.le_of_ble_eq_true rfl⟩ dL_law_1101 (fun H locs hP hS => ?_)
  exact lv_icmp_eq (tgt := 1351) hx hb dL_law_1104 (by decide) (fun _ => kk S2 H locs h3 hP hS) (fun e1 => absurd rfl e1)
theorem law_30 (C0 : lw_At p s m meth c b L xs) (X : xC p s m #[Value.ref b] c G RL code 4) (hbA : ¬ xA G b) (hL : L ≤ 3072) {i : Nat} (hi : i + 6 ≤ L) (hI : Inv S) (hP : xP G S H) (hS : va_S (xA G) s.heap H locs) (hl : lv_has ls 4 (lawl b G i)) (kk : ∀ (S2 : xS) (H : Heap) (locs : List Loc), Inv S2 → xP G S2 H → va_S (xA G) s.heap H locs → W p l e room_1 s m #[Value.ref b] below meth c H locs 600000 7302250 Q (F0 m 1351 ls [])) : W p l e room_1 s m #[Value.ref b] below meth c H locs 600000 7302250 Q (F0 m 1109 ls []) := by
  obtain ⟨hx, hb, hml, hown, hts, hE⟩ := id X
  obtain ⟨r, S1, S2, h1, h2, h3⟩ := op_lose (n := 200) hI (by decide) (xs (i + 1))
  refine lv_aload_n hx hb dL_law_1109 rfl (lv_at hl 1 rfl) ?_
  refine law_ld (k := 1) C0 hbA hS hl hL hi (by decide) dL_law_1110 dL_law_1111 dL_law_1112 (by decide) dL_law_1113 dL_law_1114 ?_
  refine x_cVi (As := [.int (xs (i + 1))]) (rest := []) X hP hS kc_L_140 (c_X8_lose l G 200 S (xs (i + 1)) r S1 h1) ⟨Nat.le_of_ble_eq_true rfl, Nat.le_of_ble_eq_true rfl⟩ (by decide) rfl rfl rfl hl.1 rfl (Nat.le_of_ble_eq_true rfl) ⟨Nat.le_of_ble_eq_true rfl, Nat.le_of_ble_eq_true rfl⟩ dL_law_1115 (fun H locs hP hS => ?_)
  refine lv_aload_n hx hb dL_law_1118 rfl (lv_at hl 2 rfl) ?_
  refine law_ld (k := 1) C0 hbA hS hl hL hi (by decide) dL_law_1119 dL_law_1120 dL_law_1121 (by decide) dL_law_1122 dL_law_1123 ?_
  refine x_cVi (As := [.int (xs (i + 1))]) (rest := [.int r]) X hP hS kc_L_143 (c_X9_lose l G 200 S1 (xs (i + 1)) r S2 h2) ⟨Nat.le_of_ble_eq_true rfl, Nat.le_of_ble_eq_true rfl⟩ (by decide) rfl rfl rfl hl.1 rfl (Nat.le_of_ble_eq_true rfl) ⟨Nat.le_of_ble_eq_true rfl, Nat.le_of_ble_eq_true rfl⟩ dL_law_1124 (fun H locs hP hS => ?_)
  exact lv_icmp_eq (tgt := 1351) hx hb dL_law_1127 (by decide) (fun _ => kk S2 H locs h3 hP hS) (fun e1 => absurd rfl e1)
theorem law_31 (C0 : lw_At p s m meth c b L xs) (X : xC p s m #[Value.ref b] c G RL code 4) (hbA : ¬ xA G b) (hL : L ≤ 3072) {i : Nat} (hi : i + 6 ≤ L) (hI : Inv S) (hP : xP G S H) (hS : va_S (xA G) s.heap H locs) (hl : lv_has ls 4 (lawl b G i)) (kk : ∀ (S2 : xS) (H : Heap) (locs : List Loc), Inv S2 → xP G S2 H → va_S (xA G) s.heap H locs → W p l e room_1 s m #[Value.ref b] below meth c H locs 600000 7302250 Q (F0 m 1351 ls [])) : W p l e room_1 s m #[Value.ref b] below meth c H locs 600000 7302250 Q (F0 m 1132 ls []) := by
  obtain ⟨hx, hb, hml, hown, hts, hE⟩ := id X
  obtain ⟨r, S1, S2, h1, h2, h3⟩ := op_put (n := 200) hI (xs (i + 1)) (xs (i + 2)) (xs (i + 3)) (xs (i + 4))
  refine lv_aload_n hx hb dL_law_1132 rfl (lv_at hl 1 rfl) ?_
  refine law_ld (k := 1) C0 hbA hS hl hL hi (by decide) dL_law_1133 dL_law_1134 dL_law_1135 (by decide) dL_law_1136 dL_law_1137 ?_
  refine law_ld (k := 2) C0 hbA hS hl hL hi (by decide) dL_law_1138 dL_law_1139 dL_law_1140 (by decide) dL_law_1141 dL_law_1142 ?_
  refine law_ld (k := 3) C0 hbA hS hl hL hi (by decide) dL_law_1143 dL_law_1144 dL_law_1145 (by decide) dL_law_1146 dL_law_1147 ?_
  refine law_ld (k := 4) C0 hbA hS hl hL hi (by decide) dL_law_1148 dL_law_1149 dL_law_1150 (by decide) dL_law_1151 dL_law_1152 ?_
  refine x_cVi (As := [.int (xs (i + 1)), .int (xs (i + 2)), .int (xs (i + 3)), .int (xs (i + 4))]) (rest := []) X hP hS kc_L_144 (c_X8_put l G 200 S (xs (i + 1)) (xs (i + 2)) (xs (i + 3)) (xs (i + 4)) r S1 h1) ⟨Nat.le_of_ble_eq_true rfl, Nat.le_of_ble_eq_true rfl⟩ (by decide) rfl rfl rfl hl.1 rfl (Nat.le_of_ble_eq_true rfl) ⟨Nat.le_of_ble_eq_true rfl, Nat.le_of_ble_eq_true rfl⟩ dL_law_1153 (fun H locs hP hS => ?_)
  refine lv_aload_n hx hb dL_law_1156 rfl (lv_at hl 2 rfl) ?_
  refine law_ld (k := 1) C0 hbA hS hl hL hi (by decide) dL_law_1157 dL_law_1158 dL_law_1159 (by decide) dL_law_1160 dL_law_1161 ?_
  refine law_ld (k := 2) C0 hbA hS hl hL hi (by decide) dL_law_1162 dL_law_1163 dL_law_1164 (by decide) dL_law_1165 dL_law_1166 ?_
  refine law_ld (k := 3) C0 hbA hS hl hL hi (by decide) dL_law_1167 dL_law_1168 dL_law_1169 (by decide) dL_law_1170 dL_law_1171 ?_
  refine law_ld (k := 4) C0 hbA hS hl hL hi (by decide) dL_law_1172 dL_law_1173 dL_law_1174 (by decide) dL_law_1175 dL_law_1176 ?_
  refine x_cVi (As := [.int (xs (i + 1)), .int (xs (i + 2)), .int (xs (i + 3)), .int (xs (i + 4))]) (rest := [.int r]) X hP hS kc_L_147 (c_X9_put l G 200 S1 (xs (i + 1)) (xs (i + 2)) (xs (i + 3)) (xs (i + 4)) r S2 h2) ⟨Nat.le_of_ble_eq_true rfl, Nat.le_of_ble_eq_true rfl⟩ (by decide) rfl rfl rfl hl.1 rfl (Nat.le_of_ble_eq_true rfl) ⟨Nat.le_of_ble_eq_true rfl, Nat.le_of_ble_eq_true rfl⟩ dL_law_1177 (fun H locs hP hS => ?_)
  exact lv_icmp_eq (tgt := 1351) hx hb dL_law_1180 (by decide) (fun _ => kk S2 H locs h3 hP hS) (fun e1 => absurd rfl e1)
theorem law_32 (C0 : lw_At p s m meth c b L xs) (X : xC p s m #[Value.ref b] c G RL code 4) (hbA : ¬ xA G b) (hL : L ≤ 3072) {i : Nat} (hi : i + 6 ≤ L) (hI : Inv S) (hP : xP G S H) (hS : va_S (xA G) s.heap H locs) (hl : lv_has ls 4 (lawl b G i)) (kk : ∀ (S2 : xS) (H : Heap) (locs : List Loc), Inv S2 → xP G S2 H → va_S (xA G) s.heap H locs → W p l e room_1 s m #[Value.ref b] below meth c H locs 600000 7302250 Q (F0 m 1351 ls [])) : W p l e room_1 s m #[Value.ref b] below meth c H locs 600000 7302250 Q (F0 m 1185 ls []) := by
  obtain ⟨hx, hb, hml, hown, hts, hE⟩ := id X
  obtain ⟨r, S1, S2, h1, h2, h3⟩ := op_get (n := 200) hI (xs (i + 1)) (xs (i + 2)) (xs (i + 3))
  refine lv_aload_n hx hb dL_law_1185 rfl (lv_at hl 1 rfl) ?_
  refine law_ld (k := 1) C0 hbA hS hl hL hi (by decide) dL_law_1186 dL_law_1187 dL_law_1188 (by decide) dL_law_1189 dL_law_1190 ?_
  refine law_ld (k := 2) C0 hbA hS hl hL hi (by decide) dL_law_1191 dL_law_1192 dL_law_1193 (by decide) dL_law_1194 dL_law_1195 ?_
  refine law_ld (k := 3) C0 hbA hS hl hL hi (by decide) dL_law_1196 dL_law_1197 dL_law_1198 (by decide) dL_law_1199 dL_law_1200 ?_
  refine x_cVi (As := [.int (xs (i + 1)), .int (xs (i + 2)), .int (xs (i + 3))]) (rest := []) X hP hS kc_L_148 (c_X8_get l G 200 S (xs (i + 1)) (xs (i + 2)) (xs (i + 3)) r S1 h1) ⟨Nat.le_of_ble_eq_true rfl, Nat.le_of_ble_eq_true rfl⟩ (by decide) rfl rfl rfl hl.1 rfl (Nat.le_of_ble_eq_true rfl) ⟨Nat.le_of_ble_eq_true rfl, Nat.le_of_ble_eq_true rfl⟩ dL_law_1201 (fun H locs hP hS => ?_)
  refine lv_aload_n hx hb dL_law_1204 rfl (lv_at hl 2 rfl) ?_
  refine law_ld (k := 1) C0 hbA hS hl hL hi (by decide) dL_law_1205 dL_law_1206 dL_law_1207 (by decide) dL_law_1208 dL_law_1209 ?_
  refine law_ld (k := 2) C0 hbA hS hl hL hi (by decide) dL_law_1210 dL_law_1211 dL_law_1212 (by decide) dL_law_1213 dL_law_1214 ?_
  refine law_ld (k := 3) C0 hbA hS hl hL hi (by decide) dL_law_1215 dL_law_1216 dL_law_1217 (by decide) dL_law_1218 dL_law_1219 ?_
  refine x_cVi (As := [.int (xs (i + 1)), .int (xs (i + 2)), .int (xs (i + 3))]) (rest := [.int r]) X hP hS kc_L_151 (c_X9_get l G 200 S1 (xs (i + 1)) (xs (i + 2)) (xs (i + 3)) r S2 h2) ⟨Nat.le_of_ble_eq_true rfl, Nat.le_of_ble_eq_true rfl⟩ (by decide) rfl rfl rfl hl.1 rfl (Nat.le_of_ble_eq_true rfl) ⟨Nat.le_of_ble_eq_true rfl, Nat.le_of_ble_eq_true rfl⟩ dL_law_1220 (fun H locs hP hS => ?_)
  exact lv_icmp_eq (tgt := 1351) hx hb dL_law_1223 (by decide) (fun _ => kk S2 H locs h3 hP hS) (fun e1 => absurd rfl e1)
theorem law_33 (C0 : lw_At p s m meth c b L xs) (X : xC p s m #[Value.ref b] c G RL code 4) (hbA : ¬ xA G b) (hL : L ≤ 3072) {i : Nat} (hi : i + 6 ≤ L) (hI : Inv S) (hP : xP G S H) (hS : va_S (xA G) s.heap H locs) (hl : lv_has ls 4 (lawl b G i)) (kk : ∀ (S2 : xS) (H : Heap) (locs : List Loc), Inv S2 → xP G S2 H → va_S (xA G) s.heap H locs → W p l e room_1 s m #[Value.ref b] below meth c H locs 600000 7302250 Q (F0 m 1351 ls [])) : W p l e room_1 s m #[Value.ref b] below meth c H locs 600000 7302250 Q (F0 m 1228 ls []) := by
  obtain ⟨hx, hb, hml, hown, hts, hE⟩ := id X
  obtain ⟨r, S1, S2, h1, h2, h3⟩ := op_copy (n := 200) hI (by decide) (xs (i + 1)) (xs (i + 2)) (xs (i + 3)) (xs (i + 4)) (xs (i + 5))
  refine lv_aload_n hx hb dL_law_1228 rfl (lv_at hl 1 rfl) ?_
  refine law_ld (k := 1) C0 hbA hS hl hL hi (by decide) dL_law_1229 dL_law_1230 dL_law_1231 (by decide) dL_law_1232 dL_law_1233 ?_
  refine law_ld (k := 2) C0 hbA hS hl hL hi (by decide) dL_law_1234 dL_law_1235 dL_law_1236 (by decide) dL_law_1237 dL_law_1238 ?_
  refine law_ld (k := 3) C0 hbA hS hl hL hi (by decide) dL_law_1239 dL_law_1240 dL_law_1241 (by decide) dL_law_1242 dL_law_1243 ?_
  refine law_ld (k := 4) C0 hbA hS hl hL hi (by decide) dL_law_1244 dL_law_1245 dL_law_1246 (by decide) dL_law_1247 dL_law_1248 ?_
  refine law_ld (k := 5) C0 hbA hS hl hL hi (by decide) dL_law_1249 dL_law_1250 dL_law_1251 (by decide) dL_law_1252 dL_law_1253 ?_
  refine x_cVi (As := [.int (xs (i + 1)), .int (xs (i + 2)), .int (xs (i + 3)), .int (xs (i + 4)), .int (xs (i + 5))]) (rest := []) X hP hS kc_L_152 (c_X8_copy l G 200 S (xs (i + 1)) (xs (i + 2)) (xs (i + 3)) (xs (i + 4)) (xs (i + 5)) r S1 h1) ⟨Nat.le_of_ble_eq_true rfl, Nat.le_of_ble_eq_true rfl⟩ (by decide) rfl rfl rfl hl.1 rfl (Nat.le_of_ble_eq_true rfl) ⟨Nat.le_of_ble_eq_true rfl, Nat.le_of_ble_eq_true rfl⟩ dL_law_1254 (fun H locs hP hS => ?_)
  refine lv_aload_n hx hb dL_law_1257 rfl (lv_at hl 2 rfl) ?_
  refine law_ld (k := 1) C0 hbA hS hl hL hi (by decide) dL_law_1258 dL_law_1259 dL_law_1260 (by decide) dL_law_1261 dL_law_1262 ?_
  refine law_ld (k := 2) C0 hbA hS hl hL hi (by decide) dL_law_1263 dL_law_1264 dL_law_1265 (by decide) dL_law_1266 dL_law_1267 ?_
  refine law_ld (k := 3) C0 hbA hS hl hL hi (by decide) dL_law_1268 dL_law_1269 dL_law_1270 (by decide) dL_law_1271 dL_law_1272 ?_
  refine law_ld (k := 4) C0 hbA hS hl hL hi (by decide) dL_law_1273 dL_law_1274 dL_law_1275 (by decide) dL_law_1276 dL_law_1277 ?_
  refine law_ld (k := 5) C0 hbA hS hl hL hi (by decide) dL_law_1278 dL_law_1279 dL_law_1280 (by decide) dL_law_1281 dL_law_1282 ?_
  refine x_cVi (As := [.int (xs (i + 1)), .int (xs (i + 2)), .int (xs (i + 3)), .int (xs (i + 4)), .int (xs (i + 5))]) (rest := [.int r]) X hP hS kc_L_156 (c_X9_copy l G 200 S1 (xs (i + 1)) (xs (i + 2)) (xs (i + 3)) (xs (i + 4)) (xs (i + 5)) r S2 h2) ⟨Nat.le_of_ble_eq_true rfl, Nat.le_of_ble_eq_true rfl⟩ (by decide) rfl rfl rfl hl.1 rfl (Nat.le_of_ble_eq_true rfl) ⟨Nat.le_of_ble_eq_true rfl, Nat.le_of_ble_eq_true rfl⟩ dL_law_1283 (fun H locs hP hS => ?_)
  exact lv_icmp_eq (tgt := 1351) hx hb dL_law_1286 (by decide) (fun _ => kk S2 H locs h3 hP hS) (fun e1 => absurd rfl e1)
theorem law_34 (C0 : lw_At p s m meth c b L xs) (X : xC p s m #[Value.ref b] c G RL code 4) (hbA : ¬ xA G b) (hL : L ≤ 3072) {i : Nat} (hi : i + 6 ≤ L) (hI : Inv S) (hP : xP G S H) (hS : va_S (xA G) s.heap H locs) (hl : lv_has ls 4 (lawl b G i)) (kk : ∀ (S2 : xS) (H : Heap) (locs : List Loc), Inv S2 → xP G S2 H → va_S (xA G) s.heap H locs → W p l e room_1 s m #[Value.ref b] below meth c H locs 600000 7302250 Q (F0 m 1351 ls [])) : W p l e room_1 s m #[Value.ref b] below meth c H locs 600000 7302250 Q (F0 m 1291 ls []) := by
  obtain ⟨hx, hb, hml, hown, hts, hE⟩ := id X
  obtain ⟨r, S1, S2, h1, h2, h3⟩ := op_write (n := 200) hI (by decide) (xs (i + 1))
  refine lv_aload_n hx hb dL_law_1291 rfl (lv_at hl 1 rfl) ?_
  refine law_ld (k := 1) C0 hbA hS hl hL hi (by decide) dL_law_1292 dL_law_1293 dL_law_1294 (by decide) dL_law_1295 dL_law_1296 ?_
  refine x_cVi (As := [.int (xs (i + 1))]) (rest := []) X hP hS kc_L_157 (c_X8_write l G 200 S (xs (i + 1)) r S1 h1) ⟨Nat.le_of_ble_eq_true rfl, Nat.le_of_ble_eq_true rfl⟩ (by decide) rfl rfl rfl hl.1 rfl (Nat.le_of_ble_eq_true rfl) ⟨Nat.le_of_ble_eq_true rfl, Nat.le_of_ble_eq_true rfl⟩ dL_law_1297 (fun H locs hP hS => ?_)
  refine lv_aload_n hx hb dL_law_1300 rfl (lv_at hl 2 rfl) ?_
  refine law_ld (k := 1) C0 hbA hS hl hL hi (by decide) dL_law_1301 dL_law_1302 dL_law_1303 (by decide) dL_law_1304 dL_law_1305 ?_
  refine x_cVi (As := [.int (xs (i + 1))]) (rest := [.int r]) X hP hS kc_L_160 (c_X9_write l G 200 S1 (xs (i + 1)) r S2 h2) ⟨Nat.le_of_ble_eq_true rfl, Nat.le_of_ble_eq_true rfl⟩ (by decide) rfl rfl rfl hl.1 rfl (Nat.le_of_ble_eq_true rfl) ⟨Nat.le_of_ble_eq_true rfl, Nat.le_of_ble_eq_true rfl⟩ dL_law_1306 (fun H locs hP hS => ?_)
  exact lv_icmp_eq (tgt := 1351) hx hb dL_law_1309 (by decide) (fun _ => kk S2 H locs h3 hP hS) (fun e1 => absurd rfl e1)
theorem law_35 (C0 : lw_At p s m meth c b L xs) (X : xC p s m #[Value.ref b] c G RL code 4) (hbA : ¬ xA G b) (hL : L ≤ 3072) {i : Nat} (hi : i + 6 ≤ L) (hI : Inv S) (hP : xP G S H) (hS : va_S (xA G) s.heap H locs) (hl : lv_has ls 4 (lawl b G i)) (kk : ∀ (S2 : xS) (H : Heap) (locs : List Loc), Inv S2 → xP G S2 H → va_S (xA G) s.heap H locs → W p l e room_1 s m #[Value.ref b] below meth c H locs 600000 7302250 Q (F0 m 1351 ls [])) : W p l e room_1 s m #[Value.ref b] below meth c H locs 600000 7302250 Q (F0 m 1314 ls []) := by
  obtain ⟨hx, hb, hml, hown, hts, hE⟩ := id X
  obtain ⟨r, S2, h1, h2, h3⟩ := op_count (n := 200) hI (by decide) (xs (i + 1))
  refine lv_aload_n hx hb dL_law_1314 rfl (lv_at hl 1 rfl) ?_
  refine law_ld (k := 1) C0 hbA hS hl hL hi (by decide) dL_law_1315 dL_law_1316 dL_law_1317 (by decide) dL_law_1318 dL_law_1319 ?_
  refine x_cVi (As := [.int (xs (i + 1))]) (rest := []) X hP hS kc_L_161 (c_X8_count l G 200 S (xs (i + 1)) r h1) ⟨Nat.le_of_ble_eq_true rfl, Nat.le_of_ble_eq_true rfl⟩ (by decide) rfl rfl rfl hl.1 rfl (Nat.le_of_ble_eq_true rfl) ⟨Nat.le_of_ble_eq_true rfl, Nat.le_of_ble_eq_true rfl⟩ dL_law_1320 (fun H locs hP hS => ?_)
  refine lv_aload_n hx hb dL_law_1323 rfl (lv_at hl 2 rfl) ?_
  refine law_ld (k := 1) C0 hbA hS hl hL hi (by decide) dL_law_1324 dL_law_1325 dL_law_1326 (by decide) dL_law_1327 dL_law_1328 ?_
  refine x_cVi (As := [.int (xs (i + 1))]) (rest := [.int r]) X hP hS kc_L_164 (c_X9_count l G 200 S (xs (i + 1)) r S2 h2) ⟨Nat.le_of_ble_eq_true rfl, Nat.le_of_ble_eq_true rfl⟩ (by decide) rfl rfl rfl hl.1 rfl (Nat.le_of_ble_eq_true rfl) ⟨Nat.le_of_ble_eq_true rfl, Nat.le_of_ble_eq_true rfl⟩ dL_law_1329 (fun H locs hP hS => ?_)
  exact lv_icmp_eq (tgt := 1351) hx hb dL_law_1332 (by decide) (fun _ => kk S2 H locs h3 hP hS) (fun e1 => absurd rfl e1)
theorem law_36 (C0 : lw_At p s m meth c b L xs) (X : xC p s m #[Value.ref b] c G RL code 4) (hbA : ¬ xA G b) (hL : L ≤ 3072) {i : Nat} (hi : i + 6 ≤ L) (hI : Inv S) (hP : xP G S H) (hS : va_S (xA G) s.heap H locs) (hl : lv_has ls 4 (lawl b G i)) (kk : ∀ (S2 : xS) (H : Heap) (locs : List Loc), Inv S2 → xP G S2 H → va_S (xA G) s.heap H locs → W p l e room_1 s m #[Value.ref b] below meth c H locs 600000 7302250 Q (F0 m 1351 ls [])) : W p l e room_1 s m #[Value.ref b] below meth c H locs 600000 7302250 Q (F0 m 1337 ls []) := by
  obtain ⟨hx, hb, hml, hown, hts, hE⟩ := id X
  obtain ⟨r, S1, S2, h1, h2, h3⟩ := op_digest (n := 200) hI (by decide) 
  refine lv_aload_n hx hb dL_law_1337 rfl (lv_at hl 1 rfl) ?_
  refine x_cVl (As := []) (rest := []) X hP hS kc_L_165 (c_X8_digest l G 200 S  r S1 h1) ⟨Nat.le_of_ble_eq_true rfl, Nat.le_of_ble_eq_true rfl⟩ (by decide) rfl rfl rfl hl.1 rfl (Nat.le_of_ble_eq_true rfl) ⟨Nat.le_of_ble_eq_true rfl, Nat.le_of_ble_eq_true rfl⟩ dL_law_1338 (fun H locs hP hS => ?_)
  refine lv_aload_n hx hb dL_law_1341 rfl (lv_at hl 2 rfl) ?_
  refine x_cVl (As := []) (rest := [.long r]) X hP hS kc_L_168 (c_X9_digest l G 200 S1  r S2 h2) ⟨Nat.le_of_ble_eq_true rfl, Nat.le_of_ble_eq_true rfl⟩ (by decide) rfl rfl rfl hl.1 rfl (Nat.le_of_ble_eq_true rfl) ⟨Nat.le_of_ble_eq_true rfl, Nat.le_of_ble_eq_true rfl⟩ dL_law_1342 (fun H locs hP hS => ?_)
  refine W.lcmp hx hb dL_law_1345 ?_
  exact lv_if_eq (tgt := 1351) hx hb dL_law_1346 (by decide) (fun _ => kk S2 H locs h3 hP hS) (fun e1 => absurd ((lg_cmp_eq _ _).mpr rfl) e1)
end LAW
