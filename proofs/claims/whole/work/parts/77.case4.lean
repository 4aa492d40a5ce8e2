/-! ===== the law, case by case ===== -/
theorem dL_1123 : decode mL_law.2.1 1123 = .ok (.aload_n 1, 1) := by decide +kernel
theorem dL_1124 : decode mL_law.2.1 1124 = .ok (.aload_n 0, 1) := by decide +kernel
theorem dL_1125 : decode mL_law.2.1 1125 = .ok (.iload 4, 2) := by decide +kernel
theorem dL_1127 : decode mL_law.2.1 1127 = .ok (.iconst 1, 1) := by decide +kernel
theorem dL_1128 : decode mL_law.2.1 1128 = .ok (.iadd, 1) := by decide +kernel
theorem dL_1129 : decode mL_law.2.1 1129 = .ok (.iaload, 1) := by decide +kernel
theorem dL_1130 : decode mL_law.2.1 1130 = .ok (.aload_n 0, 1) := by decide +kernel
theorem dL_1131 : decode mL_law.2.1 1131 = .ok (.iload 4, 2) := by decide +kernel
theorem dL_1133 : decode mL_law.2.1 1133 = .ok (.iconst 2, 1) := by decide +kernel
theorem dL_1134 : decode mL_law.2.1 1134 = .ok (.iadd, 1) := by decide +kernel
theorem dL_1135 : decode mL_law.2.1 1135 = .ok (.iaload, 1) := by decide +kernel
theorem dL_1136 : decode mL_law.2.1 1136 = .ok (.aload_n 0, 1) := by decide +kernel
theorem dL_1137 : decode mL_law.2.1 1137 = .ok (.iload 4, 2) := by decide +kernel
theorem dL_1139 : decode mL_law.2.1 1139 = .ok (.iconst 3, 1) := by decide +kernel
theorem dL_1140 : decode mL_law.2.1 1140 = .ok (.iadd, 1) := by decide +kernel
theorem dL_1141 : decode mL_law.2.1 1141 = .ok (.iaload, 1) := by decide +kernel
theorem dL_1142 : decode mL_law.2.1 1142 = .ok (.aload_n 0, 1) := by decide +kernel
theorem dL_1143 : decode mL_law.2.1 1143 = .ok (.iload 4, 2) := by decide +kernel
theorem dL_1145 : decode mL_law.2.1 1145 = .ok (.iconst 4, 1) := by decide +kernel
theorem dL_1146 : decode mL_law.2.1 1146 = .ok (.iadd, 1) := by decide +kernel
theorem dL_1147 : decode mL_law.2.1 1147 = .ok (.iaload, 1) := by decide +kernel
theorem dL_1148 : decode mL_law.2.1 1148 = .ok (.invokevirtual 148, 3) := by decide +kernel
theorem dL_1151 : decode mL_law.2.1 1151 = .ok (.aload_n 2, 1) := by decide +kernel
theorem dL_1152 : decode mL_law.2.1 1152 = .ok (.aload_n 0, 1) := by decide +kernel
theorem dL_1153 : decode mL_law.2.1 1153 = .ok (.iload 4, 2) := by decide +kernel
theorem dL_1155 : decode mL_law.2.1 1155 = .ok (.iconst 1, 1) := by decide +kernel
theorem dL_1156 : decode mL_law.2.1 1156 = .ok (.iadd, 1) := by decide +kernel
theorem dL_1157 : decode mL_law.2.1 1157 = .ok (.iaload, 1) := by decide +kernel
theorem dL_1158 : decode mL_law.2.1 1158 = .ok (.aload_n 0, 1) := by decide +kernel
theorem dL_1159 : decode mL_law.2.1 1159 = .ok (.iload 4, 2) := by decide +kernel
theorem dL_1161 : decode mL_law.2.1 1161 = .ok (.iconst 2, 1) := by decide +kernel
theorem dL_1162 : decode mL_law.2.1 1162 = .ok (.iadd, 1) := by decide +kernel
theorem dL_1163 : decode mL_law.2.1 1163 = .ok (.iaload, 1) := by decide +kernel
theorem dL_1164 : decode mL_law.2.1 1164 = .ok (.aload_n 0, 1) := by decide +kernel
theorem dL_1165 : decode mL_law.2.1 1165 = .ok (.iload 4, 2) := by decide +kernel
theorem dL_1167 : decode mL_law.2.1 1167 = .ok (.iconst 3, 1) := by decide +kernel
theorem dL_1168 : decode mL_law.2.1 1168 = .ok (.iadd, 1) := by decide +kernel
theorem dL_1169 : decode mL_law.2.1 1169 = .ok (.iaload, 1) := by decide +kernel
theorem dL_1170 : decode mL_law.2.1 1170 = .ok (.aload_n 0, 1) := by decide +kernel
theorem dL_1171 : decode mL_law.2.1 1171 = .ok (.iload 4, 2) := by decide +kernel
theorem dL_1173 : decode mL_law.2.1 1173 = .ok (.iconst 4, 1) := by decide +kernel
theorem dL_1174 : decode mL_law.2.1 1174 = .ok (.iadd, 1) := by decide +kernel
theorem dL_1175 : decode mL_law.2.1 1175 = .ok (.iaload, 1) := by decide +kernel
theorem dL_1176 : decode mL_law.2.1 1176 = .ok (.invokevirtual 152, 3) := by decide +kernel
theorem dL_1179 : decode mL_law.2.1 1179 = .ok (.if_icmp .eq 168, 3) := by decide +kernel
theorem dL_1182 : decode mL_law.2.1 1182 = .ok (.iconst 0, 1) := by decide +kernel
theorem dL_1183 : decode mL_law.2.1 1183 = .ok (.ireturn, 1) := by decide +kernel
theorem lc_odds {n : Nat} {xs : Nat → Int32} {g : Nat} {i B : Int} {m : Mem} {Q : Int → Mem → Prop} (hn : n ≤ 3072) (hg : 1 ≤ g) (h0 : 0 ≤ i) (h1 : i + 6 ≤ n) (h : Inv m B) (hB : 0 ≤ B ∧ B ≤ 100000000) (k : ∀ m2 : Mem, Inv m2 (B + 300) → GoL (XL n xs) (g - 1) 72 mL_law Q 1347 (LL i) [] m2) : GoL (XL n xs) g 72 mL_law Q 1123 (LL i) [] m := by
  have K0 : Duo mX11_odds mX12_odds [vi (sc xs (i + 1)), vi (sc xs (i + 2)), vi (sc xs (i + 3)), vi (sc xs (i + 4))] m (fun m2 => Inv m2 B) := c_odds h hB (InR.r _) (InR.r _) (InR.r _) (InR.r _)
  obtain ⟨d1, Q1, hd1, E1, K1⟩ := K0
  refine gl_aload_n dL_1123 rfl ?_
  refine gl_aload_n dL_1124 rfl ?_
  refine gl_iload dL_1125 rfl ?_
  refine gl_iconst dL_1127 ?_
  refine gl_iadd dL_1128 ?_
  refine gl_sload dL_1129 (by omega) (by omega) hn ?_
  refine gl_aload_n dL_1130 rfl ?_
  refine gl_iload dL_1131 rfl ?_
  refine gl_iconst dL_1133 ?_
  refine gl_iadd dL_1134 ?_
  refine gl_sload dL_1135 (by omega) (by omega) hn ?_
  refine gl_aload_n dL_1136 rfl ?_
  refine gl_iload dL_1137 rfl ?_
  refine gl_iconst dL_1139 ?_
  refine gl_iadd dL_1140 ?_
  refine gl_sload dL_1141 (by omega) (by omega) hn ?_
  refine gl_aload_n dL_1142 rfl ?_
  refine gl_iload dL_1143 rfl ?_
  refine gl_iconst dL_1145 ?_
  refine gl_iadd dL_1146 ?_
  refine gl_sload dL_1147 (by omega) (by omega) hn ?_
  refine gl_callR (as := [vi (sc xs (i + 1)), vi (sc xs (i + 2)), vi (sc xs (i + 3)), vi (sc xs (i + 4))]) (S := []) (b := 0) E1 (Or.inl rfl) dL_1148 cv_L_148 rfl rfl ob_0 rfl (by omega) (by decide) (fun r1 m1 hq1 hr1 => ?_)
  obtain ⟨d2, Q2, hd2, E2, K2⟩ := K1 r1 m1 hq1
  refine gl_aload_n dL_1151 rfl ?_
  refine gl_aload_n dL_1152 rfl ?_
  refine gl_iload dL_1153 rfl ?_
  refine gl_iconst dL_1155 ?_
  refine gl_iadd dL_1156 ?_
  refine gl_sload dL_1157 (by omega) (by omega) hn ?_
  refine gl_aload_n dL_1158 rfl ?_
  refine gl_iload dL_1159 rfl ?_
  refine gl_iconst dL_1161 ?_
  refine gl_iadd dL_1162 ?_
  refine gl_sload dL_1163 (by omega) (by omega) hn ?_
  refine gl_aload_n dL_1164 rfl ?_
  refine gl_iload dL_1165 rfl ?_
  refine gl_iconst dL_1167 ?_
  refine gl_iadd dL_1168 ?_
  refine gl_sload dL_1169 (by omega) (by omega) hn ?_
  refine gl_aload_n dL_1170 rfl ?_
  refine gl_iload dL_1171 rfl ?_
  refine gl_iconst dL_1173 ?_
  refine gl_iadd dL_1174 ?_
  refine gl_sload dL_1175 (by omega) (by omega) hn ?_
  refine gl_callR (as := [vi (sc xs (i + 1)), vi (sc xs (i + 2)), vi (sc xs (i + 3)), vi (sc xs (i + 4))]) (S := [vi r1]) (b := 214) E2 (Or.inl rfl) dL_1176 cv_L_152 rfl rfl ob_214 rfl (by omega) (Nat.le_of_ble_eq_true rfl) (fun r2 m2 hq2 hr2 => ?_)
  obtain ⟨hrr, hI⟩ := K2 r2 m2 hq2
  refine gl_icmp_eq (tgt := 1347) dL_1179 (by decide) hr1 hr2 (fun e => gl_weak (by omega) (k m2 (hI.all (by omega) (fun _ _ _ => rfl)))) (fun e => absurd hrr.symm e)
theorem dL_1184 : decode mL_law.2.1 1184 = .ok (.aload_n 1, 1) := by decide +kernel
theorem dL_1185 : decode mL_law.2.1 1185 = .ok (.aload_n 0, 1) := by decide +kernel
theorem dL_1186 : decode mL_law.2.1 1186 = .ok (.iload 4, 2) := by decide +kernel
theorem dL_1188 : decode mL_law.2.1 1188 = .ok (.iconst 1, 1) := by decide +kernel
theorem dL_1189 : decode mL_law.2.1 1189 = .ok (.iadd, 1) := by decide +kernel
theorem dL_1190 : decode mL_law.2.1 1190 = .ok (.iaload, 1) := by decide +kernel
theorem dL_1191 : decode mL_law.2.1 1191 = .ok (.invokevirtual 153, 3) := by decide +kernel
theorem dL_1194 : decode mL_law.2.1 1194 = .ok (.aload_n 2, 1) := by decide +kernel
theorem dL_1195 : decode mL_law.2.1 1195 = .ok (.aload_n 0, 1) := by decide +kernel
theorem dL_1196 : decode mL_law.2.1 1196 = .ok (.iload 4, 2) := by decide +kernel
theorem dL_1198 : decode mL_law.2.1 1198 = .ok (.iconst 1, 1) := by decide +kernel
theorem dL_1199 : decode mL_law.2.1 1199 = .ok (.iadd, 1) := by decide +kernel
theorem dL_1200 : decode mL_law.2.1 1200 = .ok (.iaload, 1) := by decide +kernel
theorem dL_1201 : decode mL_law.2.1 1201 = .ok (.invokevirtual 156, 3) := by decide +kernel
theorem dL_1204 : decode mL_law.2.1 1204 = .ok (.if_icmp .eq 143, 3) := by decide +kernel
theorem dL_1207 : decode mL_law.2.1 1207 = .ok (.iconst 0, 1) := by decide +kernel
theorem dL_1208 : decode mL_law.2.1 1208 = .ok (.ireturn, 1) := by decide +kernel
theorem lc_book {n : Nat} {xs : Nat → Int32} {g : Nat} {i B : Int} {m : Mem} {Q : Int → Mem → Prop} (hn : n ≤ 3072) (hg : 1 ≤ g) (h0 : 0 ≤ i) (h1 : i + 6 ≤ n) (h : Inv m B) (hB : 0 ≤ B ∧ B ≤ 100000000) (k : ∀ m2 : Mem, Inv m2 (B + 300) → GoL (XL n xs) (g - 1) 72 mL_law Q 1347 (LL i) [] m2) : GoL (XL n xs) g 72 mL_law Q 1184 (LL i) [] m := by
  have K0 : Duo mX11_book mX12_book [vi (sc xs (i + 1))] m (fun m2 => Inv m2 (B + 300)) := c_book h hB (InR.r _)
  obtain ⟨d1, Q1, hd1, E1, K1⟩ := K0
  refine gl_aload_n dL_1184 rfl ?_
  refine gl_aload_n dL_1185 rfl ?_
  refine gl_iload dL_1186 rfl ?_
  refine gl_iconst dL_1188 ?_
  refine gl_iadd dL_1189 ?_
  refine gl_sload dL_1190 (by omega) (by omega) hn ?_
  refine gl_callR (as := [vi (sc xs (i + 1))]) (S := []) (b := 0) E1 (Or.inl rfl) dL_1191 cv_L_153 rfl rfl ob_0 rfl (by omega) (by decide) (fun r1 m1 hq1 hr1 => ?_)
  obtain ⟨d2, Q2, hd2, E2, K2⟩ := K1 r1 m1 hq1
  refine gl_aload_n dL_1194 rfl ?_
  refine gl_aload_n dL_1195 rfl ?_
  refine gl_iload dL_1196 rfl ?_
  refine gl_iconst dL_1198 ?_
  refine gl_iadd dL_1199 ?_
  refine gl_sload dL_1200 (by omega) (by omega) hn ?_
  refine gl_callR (as := [vi (sc xs (i + 1))]) (S := [vi r1]) (b := 214) E2 (Or.inl rfl) dL_1201 cv_L_156 rfl rfl ob_214 rfl (by omega) (Nat.le_of_ble_eq_true rfl) (fun r2 m2 hq2 hr2 => ?_)
  obtain ⟨hrr, hI⟩ := K2 r2 m2 hq2
  refine gl_icmp_eq (tgt := 1347) dL_1204 (by decide) hr1 hr2 (fun e => gl_weak (by omega) (k m2 hI)) (fun e => absurd hrr.symm e)
theorem dL_1209 : decode mL_law.2.1 1209 = .ok (.aload_n 1, 1) := by decide +kernel
theorem dL_1210 : decode mL_law.2.1 1210 = .ok (.aload_n 0, 1) := by decide +kernel
theorem dL_1211 : decode mL_law.2.1 1211 = .ok (.iload 4, 2) := by decide +kernel
theorem dL_1213 : decode mL_law.2.1 1213 = .ok (.iconst 1, 1) := by decide +kernel
theorem dL_1214 : decode mL_law.2.1 1214 = .ok (.iadd, 1) := by decide +kernel
theorem dL_1215 : decode mL_law.2.1 1215 = .ok (.iaload, 1) := by decide +kernel
theorem dL_1216 : decode mL_law.2.1 1216 = .ok (.invokevirtual 157, 3) := by decide +kernel
theorem dL_1219 : decode mL_law.2.1 1219 = .ok (.aload_n 2, 1) := by decide +kernel
theorem dL_1220 : decode mL_law.2.1 1220 = .ok (.aload_n 0, 1) := by decide +kernel
theorem dL_1221 : decode mL_law.2.1 1221 = .ok (.iload 4, 2) := by decide +kernel
theorem dL_1223 : decode mL_law.2.1 1223 = .ok (.iconst 1, 1) := by decide +kernel
theorem dL_1224 : decode mL_law.2.1 1224 = .ok (.iadd, 1) := by decide +kernel
theorem dL_1225 : decode mL_law.2.1 1225 = .ok (.iaload, 1) := by decide +kernel
theorem dL_1226 : decode mL_law.2.1 1226 = .ok (.invokevirtual 160, 3) := by decide +kernel
theorem dL_1229 : decode mL_law.2.1 1229 = .ok (.if_icmp .eq 118, 3) := by decide +kernel
theorem dL_1232 : decode mL_law.2.1 1232 = .ok (.iconst 0, 1) := by decide +kernel
theorem dL_1233 : decode mL_law.2.1 1233 = .ok (.ireturn, 1) := by decide +kernel
theorem lc_told {n : Nat} {xs : Nat → Int32} {g : Nat} {i B : Int} {m : Mem} {Q : Int → Mem → Prop} (hn : n ≤ 3072) (hg : 1 ≤ g) (h0 : 0 ≤ i) (h1 : i + 6 ≤ n) (h : Inv m B) (hB : 0 ≤ B ∧ B ≤ 100000000) (k : ∀ m2 : Mem, Inv m2 (B + 300) → GoL (XL n xs) (g - 1) 72 mL_law Q 1347 (LL i) [] m2) : GoL (XL n xs) g 72 mL_law Q 1209 (LL i) [] m := by
  have K0 : Duo mX11_told mX12_told [vi (sc xs (i + 1))] m (fun m2 => Inv m2 B) := c_told h (InR.r _)
  obtain ⟨d1, Q1, hd1, E1, K1⟩ := K0
  refine gl_aload_n dL_1209 rfl ?_
  refine gl_aload_n dL_1210 rfl ?_
  refine gl_iload dL_1211 rfl ?_
  refine gl_iconst dL_1213 ?_
  refine gl_iadd dL_1214 ?_
  refine gl_sload dL_1215 (by omega) (by omega) hn ?_
  refine gl_callR (as := [vi (sc xs (i + 1))]) (S := []) (b := 0) E1 (Or.inl rfl) dL_1216 cv_L_157 rfl rfl ob_0 rfl (by omega) (by decide) (fun r1 m1 hq1 hr1 => ?_)
  obtain ⟨d2, Q2, hd2, E2, K2⟩ := K1 r1 m1 hq1
  refine gl_aload_n dL_1219 rfl ?_
  refine gl_aload_n dL_1220 rfl ?_
  refine gl_iload dL_1221 rfl ?_
  refine gl_iconst dL_1223 ?_
  refine gl_iadd dL_1224 ?_
  refine gl_sload dL_1225 (by omega) (by omega) hn ?_
  refine gl_callR (as := [vi (sc xs (i + 1))]) (S := [vi r1]) (b := 214) E2 (Or.inl rfl) dL_1226 cv_L_160 rfl rfl ob_214 rfl (by omega) (Nat.le_of_ble_eq_true rfl) (fun r2 m2 hq2 hr2 => ?_)
  obtain ⟨hrr, hI⟩ := K2 r2 m2 hq2
  refine gl_icmp_eq (tgt := 1347) dL_1229 (by decide) hr1 hr2 (fun e => gl_weak (by omega) (k m2 (hI.all (by omega) (fun _ _ _ => rfl)))) (fun e => absurd hrr.symm e)
theorem dL_1234 : decode mL_law.2.1 1234 = .ok (.aload_n 1, 1) := by decide +kernel
theorem dL_1235 : decode mL_law.2.1 1235 = .ok (.invokevirtual 161, 3) := by decide +kernel
theorem dL_1238 : decode mL_law.2.1 1238 = .ok (.aload_n 2, 1) := by decide +kernel
theorem dL_1239 : decode mL_law.2.1 1239 = .ok (.invokevirtual 164, 3) := by decide +kernel
theorem dL_1242 : decode mL_law.2.1 1242 = .ok (.if_icmp .eq 105, 3) := by decide +kernel
theorem dL_1245 : decode mL_law.2.1 1245 = .ok (.iconst 0, 1) := by decide +kernel
theorem dL_1246 : decode mL_law.2.1 1246 = .ok (.ireturn, 1) := by decide +kernel
theorem lc_sentence {n : Nat} {xs : Nat → Int32} {g : Nat} {i B : Int} {m : Mem} {Q : Int → Mem → Prop} (hn : n ≤ 3072) (hg : 1 ≤ g) (h0 : 0 ≤ i) (h1 : i + 6 ≤ n) (h : Inv m B) (hB : 0 ≤ B ∧ B ≤ 100000000) (k : ∀ m2 : Mem, Inv m2 (B + 300) → GoL (XL n xs) (g - 1) 72 mL_law Q 1347 (LL i) [] m2) : GoL (XL n xs) g 72 mL_law Q 1234 (LL i) [] m := by
  have K0 : Duo mX11_sentence mX12_sentence [] m (fun m2 => Inv m2 B) := c_sentence h
  obtain ⟨d1, Q1, hd1, E1, K1⟩ := K0
  refine gl_aload_n dL_1234 rfl ?_
  refine gl_callR (as := []) (S := []) (b := 0) E1 (Or.inl rfl) dL_1235 cv_L_161 rfl rfl ob_0 rfl (by omega) (by decide) (fun r1 m1 hq1 hr1 => ?_)
  obtain ⟨d2, Q2, hd2, E2, K2⟩ := K1 r1 m1 hq1
  refine gl_aload_n dL_1238 rfl ?_
  refine gl_callR (as := []) (S := [vi r1]) (b := 214) E2 (Or.inl rfl) dL_1239 cv_L_164 rfl rfl ob_214 rfl (by omega) (Nat.le_of_ble_eq_true rfl) (fun r2 m2 hq2 hr2 => ?_)
  obtain ⟨hrr, hI⟩ := K2 r2 m2 hq2
  refine gl_icmp_eq (tgt := 1347) dL_1242 (by decide) hr1 hr2 (fun e => gl_weak (by omega) (k m2 (hI.all (by omega) (fun _ _ _ => rfl)))) (fun e => absurd hrr.symm e)
theorem dL_1247 : decode mL_law.2.1 1247 = .ok (.aload_n 1, 1) := by decide +kernel
theorem dL_1248 : decode mL_law.2.1 1248 = .ok (.aload_n 0, 1) := by decide +kernel
theorem dL_1249 : decode mL_law.2.1 1249 = .ok (.iload 4, 2) := by decide +kernel
theorem dL_1251 : decode mL_law.2.1 1251 = .ok (.iconst 1, 1) := by decide +kernel
theorem dL_1252 : decode mL_law.2.1 1252 = .ok (.iadd, 1) := by decide +kernel
theorem dL_1253 : decode mL_law.2.1 1253 = .ok (.iaload, 1) := by decide +kernel
theorem dL_1254 : decode mL_law.2.1 1254 = .ok (.invokevirtual 165, 3) := by decide +kernel
theorem dL_1257 : decode mL_law.2.1 1257 = .ok (.aload_n 2, 1) := by decide +kernel
theorem dL_1258 : decode mL_law.2.1 1258 = .ok (.aload_n 0, 1) := by decide +kernel
theorem dL_1259 : decode mL_law.2.1 1259 = .ok (.iload 4, 2) := by decide +kernel
theorem dL_1261 : decode mL_law.2.1 1261 = .ok (.iconst 1, 1) := by decide +kernel
theorem dL_1262 : decode mL_law.2.1 1262 = .ok (.iadd, 1) := by decide +kernel
theorem dL_1263 : decode mL_law.2.1 1263 = .ok (.iaload, 1) := by decide +kernel
theorem dL_1264 : decode mL_law.2.1 1264 = .ok (.invokevirtual 168, 3) := by decide +kernel
theorem dL_1267 : decode mL_law.2.1 1267 = .ok (.if_icmp .eq 80, 3) := by decide +kernel
theorem dL_1270 : decode mL_law.2.1 1270 = .ok (.iconst 0, 1) := by decide +kernel
theorem dL_1271 : decode mL_law.2.1 1271 = .ok (.ireturn, 1) := by decide +kernel
theorem lc_said {n : Nat} {xs : Nat → Int32} {g : Nat} {i B : Int} {m : Mem} {Q : Int → Mem → Prop} (hn : n ≤ 3072) (hg : 1 ≤ g) (h0 : 0 ≤ i) (h1 : i + 6 ≤ n) (h : Inv m B) (hB : 0 ≤ B ∧ B ≤ 100000000) (k : ∀ m2 : Mem, Inv m2 (B + 300) → GoL (XL n xs) (g - 1) 72 mL_law Q 1347 (LL i) [] m2) : GoL (XL n xs) g 72 mL_law Q 1247 (LL i) [] m := by
  have K0 : Duo mX11_said mX12_said [vi (sc xs (i + 1))] m (fun m2 => Inv m2 B) := c_said h hB (InR.r _)
  obtain ⟨d1, Q1, hd1, E1, K1⟩ := K0
  refine gl_aload_n dL_1247 rfl ?_
  refine gl_aload_n dL_1248 rfl ?_
  refine gl_iload dL_1249 rfl ?_
  refine gl_iconst dL_1251 ?_
  refine gl_iadd dL_1252 ?_
  refine gl_sload dL_1253 (by omega) (by omega) hn ?_
  refine gl_callR (as := [vi (sc xs (i + 1))]) (S := []) (b := 0) E1 (Or.inl rfl) dL_1254 cv_L_165 rfl rfl ob_0 rfl (by omega) (by decide) (fun r1 m1 hq1 hr1 => ?_)
  obtain ⟨d2, Q2, hd2, E2, K2⟩ := K1 r1 m1 hq1
  refine gl_aload_n dL_1257 rfl ?_
  refine gl_aload_n dL_1258 rfl ?_
  refine gl_iload dL_1259 rfl ?_
  refine gl_iconst dL_1261 ?_
  refine gl_iadd dL_1262 ?_
  refine gl_sload dL_1263 (by omega) (by omega) hn ?_
  refine gl_callR (as := [vi (sc xs (i + 1))]) (S := [vi r1]) (b := 214) E2 (Or.inl rfl) dL_1264 cv_L_168 rfl rfl ob_214 rfl (by omega) (Nat.le_of_ble_eq_true rfl) (fun r2 m2 hq2 hr2 => ?_)
  obtain ⟨hrr, hI⟩ := K2 r2 m2 hq2
  refine gl_icmp_eq (tgt := 1347) dL_1267 (by decide) hr1 hr2 (fun e => gl_weak (by omega) (k m2 (hI.all (by omega) (fun _ _ _ => rfl)))) (fun e => absurd hrr.symm e)
theorem dL_1272 : decode mL_law.2.1 1272 = .ok (.aload_n 1, 1) := by decide +kernel
theorem dL_1273 : decode mL_law.2.1 1273 = .ok (.aload_n 0, 1) := by decide +kernel
theorem dL_1274 : decode mL_law.2.1 1274 = .ok (.iload 4, 2) := by decide +kernel
theorem dL_1276 : decode mL_law.2.1 1276 = .ok (.iconst 1, 1) := by decide +kernel
theorem dL_1277 : decode mL_law.2.1 1277 = .ok (.iadd, 1) := by decide +kernel
theorem dL_1278 : decode mL_law.2.1 1278 = .ok (.iaload, 1) := by decide +kernel
theorem dL_1279 : decode mL_law.2.1 1279 = .ok (.invokevirtual 169, 3) := by decide +kernel
theorem dL_1282 : decode mL_law.2.1 1282 = .ok (.aload_n 2, 1) := by decide +kernel
theorem dL_1283 : decode mL_law.2.1 1283 = .ok (.aload_n 0, 1) := by decide +kernel
theorem dL_1284 : decode mL_law.2.1 1284 = .ok (.iload 4, 2) := by decide +kernel
theorem dL_1286 : decode mL_law.2.1 1286 = .ok (.iconst 1, 1) := by decide +kernel
theorem dL_1287 : decode mL_law.2.1 1287 = .ok (.iadd, 1) := by decide +kernel
theorem dL_1288 : decode mL_law.2.1 1288 = .ok (.iaload, 1) := by decide +kernel
theorem dL_1289 : decode mL_law.2.1 1289 = .ok (.invokevirtual 172, 3) := by decide +kernel
theorem dL_1292 : decode mL_law.2.1 1292 = .ok (.if_icmp .eq 55, 3) := by decide +kernel
theorem dL_1295 : decode mL_law.2.1 1295 = .ok (.iconst 0, 1) := by decide +kernel
theorem dL_1296 : decode mL_law.2.1 1296 = .ok (.ireturn, 1) := by decide +kernel
theorem lc_image {n : Nat} {xs : Nat → Int32} {g : Nat} {i B : Int} {m : Mem} {Q : Int → Mem → Prop} (hn : n ≤ 3072) (hg : 1 ≤ g) (h0 : 0 ≤ i) (h1 : i + 6 ≤ n) (h : Inv m B) (hB : 0 ≤ B ∧ B ≤ 100000000) (k : ∀ m2 : Mem, Inv m2 (B + 300) → GoL (XL n xs) (g - 1) 72 mL_law Q 1347 (LL i) [] m2) : GoL (XL n xs) g 72 mL_law Q 1272 (LL i) [] m := by
  have K0 : Duo mX11_image mX12_image [vi (sc xs (i + 1))] m (fun m2 => Inv m2 B) := c_image h (InR.r _)
  obtain ⟨d1, Q1, hd1, E1, K1⟩ := K0
  refine gl_aload_n dL_1272 rfl ?_
  refine gl_aload_n dL_1273 rfl ?_
  refine gl_iload dL_1274 rfl ?_
  refine gl_iconst dL_1276 ?_
  refine gl_iadd dL_1277 ?_
  refine gl_sload dL_1278 (by omega) (by omega) hn ?_
  refine gl_callR (as := [vi (sc xs (i + 1))]) (S := []) (b := 0) E1 (Or.inr rfl) dL_1279 cv_L_169 rfl rfl ob_0 rfl (by omega) (by decide) (fun r1 m1 hq1 hr1 => ?_)
  obtain ⟨d2, Q2, hd2, E2, K2⟩ := K1 r1 m1 hq1
  refine gl_aload_n dL_1282 rfl ?_
  refine gl_aload_n dL_1283 rfl ?_
  refine gl_iload dL_1284 rfl ?_
  refine gl_iconst dL_1286 ?_
  refine gl_iadd dL_1287 ?_
  refine gl_sload dL_1288 (by omega) (by omega) hn ?_
  refine gl_callR (as := [vi (sc xs (i + 1))]) (S := [vi r1]) (b := 214) E2 (Or.inr rfl) dL_1289 cv_L_172 rfl rfl ob_214 rfl (by omega) (Nat.le_of_ble_eq_true rfl) (fun r2 m2 hq2 hr2 => ?_)
  obtain ⟨hrr, hI⟩ := K2 r2 m2 hq2
  refine gl_icmp_eq (tgt := 1347) dL_1292 (by decide) hr1 hr2 (fun e => gl_weak (by omega) (k m2 (hI.all (by omega) (fun _ _ _ => rfl)))) (fun e => absurd hrr.symm e)
theorem dL_1297 : decode mL_law.2.1 1297 = .ok (.aload_n 1, 1) := by decide +kernel
theorem dL_1298 : decode mL_law.2.1 1298 = .ok (.aload_n 0, 1) := by decide +kernel
theorem dL_1299 : decode mL_law.2.1 1299 = .ok (.iload 4, 2) := by decide +kernel
theorem dL_1301 : decode mL_law.2.1 1301 = .ok (.iconst 1, 1) := by decide +kernel
theorem dL_1302 : decode mL_law.2.1 1302 = .ok (.iadd, 1) := by decide +kernel
theorem dL_1303 : decode mL_law.2.1 1303 = .ok (.iaload, 1) := by decide +kernel
theorem dL_1304 : decode mL_law.2.1 1304 = .ok (.invokevirtual 173, 3) := by decide +kernel
theorem dL_1307 : decode mL_law.2.1 1307 = .ok (.aload_n 2, 1) := by decide +kernel
theorem dL_1308 : decode mL_law.2.1 1308 = .ok (.aload_n 0, 1) := by decide +kernel
theorem dL_1309 : decode mL_law.2.1 1309 = .ok (.iload 4, 2) := by decide +kernel
theorem dL_1311 : decode mL_law.2.1 1311 = .ok (.iconst 1, 1) := by decide +kernel
theorem dL_1312 : decode mL_law.2.1 1312 = .ok (.iadd, 1) := by decide +kernel
theorem dL_1313 : decode mL_law.2.1 1313 = .ok (.iaload, 1) := by decide +kernel
theorem dL_1314 : decode mL_law.2.1 1314 = .ok (.invokevirtual 176, 3) := by decide +kernel
theorem dL_1317 : decode mL_law.2.1 1317 = .ok (.if_icmp .eq 30, 3) := by decide +kernel
theorem dL_1320 : decode mL_law.2.1 1320 = .ok (.iconst 0, 1) := by decide +kernel
theorem dL_1321 : decode mL_law.2.1 1321 = .ok (.ireturn, 1) := by decide +kernel
theorem lc_restore {n : Nat} {xs : Nat → Int32} {g : Nat} {i B : Int} {m : Mem} {Q : Int → Mem → Prop} (hn : n ≤ 3072) (hg : 1 ≤ g) (h0 : 0 ≤ i) (h1 : i + 6 ≤ n) (h : Inv m B) (hB : 0 ≤ B ∧ B ≤ 100000000) (k : ∀ m2 : Mem, Inv m2 (B + 300) → GoL (XL n xs) (g - 1) 72 mL_law Q 1347 (LL i) [] m2) : GoL (XL n xs) g 72 mL_law Q 1297 (LL i) [] m := by
  have K0 : Duo mX11_restore mX12_restore [vi (sc xs (i + 1))] m (fun m2 => Inv m2 B) := c_restore h (InR.r _)
  obtain ⟨d1, Q1, hd1, E1, K1⟩ := K0
  refine gl_aload_n dL_1297 rfl ?_
  refine gl_aload_n dL_1298 rfl ?_
  refine gl_iload dL_1299 rfl ?_
  refine gl_iconst dL_1301 ?_
  refine gl_iadd dL_1302 ?_
  refine gl_sload dL_1303 (by omega) (by omega) hn ?_
  refine gl_callR (as := [vi (sc xs (i + 1))]) (S := []) (b := 0) E1 (Or.inr rfl) dL_1304 cv_L_173 rfl rfl ob_0 rfl (by omega) (by decide) (fun r1 m1 hq1 hr1 => ?_)
  obtain ⟨d2, Q2, hd2, E2, K2⟩ := K1 r1 m1 hq1
  refine gl_aload_n dL_1307 rfl ?_
  refine gl_aload_n dL_1308 rfl ?_
  refine gl_iload dL_1309 rfl ?_
  refine gl_iconst dL_1311 ?_
  refine gl_iadd dL_1312 ?_
  refine gl_sload dL_1313 (by omega) (by omega) hn ?_
  refine gl_callR (as := [vi (sc xs (i + 1))]) (S := [vi r1]) (b := 214) E2 (Or.inr rfl) dL_1314 cv_L_176 rfl rfl ob_214 rfl (by omega) (Nat.le_of_ble_eq_true rfl) (fun r2 m2 hq2 hr2 => ?_)
  obtain ⟨hrr, hI⟩ := K2 r2 m2 hq2
  refine gl_icmp_eq (tgt := 1347) dL_1317 (by decide) hr1 hr2 (fun e => gl_weak (by omega) (k m2 (hI.all (by omega) (fun _ _ _ => rfl)))) (fun e => absurd hrr.symm e)
theorem dL_1322 : decode mL_law.2.1 1322 = .ok (.aload_n 1, 1) := by decide +kernel
theorem dL_1323 : decode mL_law.2.1 1323 = .ok (.aload_n 0, 1) := by decide +kernel
theorem dL_1324 : decode mL_law.2.1 1324 = .ok (.iload 4, 2) := by decide +kernel
theorem dL_1326 : decode mL_law.2.1 1326 = .ok (.iconst 1, 1) := by decide +kernel
theorem dL_1327 : decode mL_law.2.1 1327 = .ok (.iadd, 1) := by decide +kernel
theorem dL_1328 : decode mL_law.2.1 1328 = .ok (.iaload, 1) := by decide +kernel
theorem dL_1329 : decode mL_law.2.1 1329 = .ok (.invokevirtual 177, 3) := by decide +kernel
theorem dL_1332 : decode mL_law.2.1 1332 = .ok (.aload_n 2, 1) := by decide +kernel
theorem dL_1333 : decode mL_law.2.1 1333 = .ok (.aload_n 0, 1) := by decide +kernel
theorem dL_1334 : decode mL_law.2.1 1334 = .ok (.iload 4, 2) := by decide +kernel
theorem dL_1336 : decode mL_law.2.1 1336 = .ok (.iconst 1, 1) := by decide +kernel
theorem dL_1337 : decode mL_law.2.1 1337 = .ok (.iadd, 1) := by decide +kernel
theorem dL_1338 : decode mL_law.2.1 1338 = .ok (.iaload, 1) := by decide +kernel
theorem dL_1339 : decode mL_law.2.1 1339 = .ok (.invokevirtual 180, 3) := by decide +kernel
theorem dL_1342 : decode mL_law.2.1 1342 = .ok (.if_icmp .eq 5, 3) := by decide +kernel
theorem dL_1345 : decode mL_law.2.1 1345 = .ok (.iconst 0, 1) := by decide +kernel
theorem dL_1346 : decode mL_law.2.1 1346 = .ok (.ireturn, 1) := by decide +kernel
theorem lc_count {n : Nat} {xs : Nat → Int32} {g : Nat} {i B : Int} {m : Mem} {Q : Int → Mem → Prop} (hn : n ≤ 3072) (hg : 1 ≤ g) (h0 : 0 ≤ i) (h1 : i + 6 ≤ n) (h : Inv m B) (hB : 0 ≤ B ∧ B ≤ 100000000) (k : ∀ m2 : Mem, Inv m2 (B + 300) → GoL (XL n xs) (g - 1) 72 mL_law Q 1347 (LL i) [] m2) : GoL (XL n xs) g 72 mL_law Q 1322 (LL i) [] m := by
  have K0 : Duo mX11_count mX12_count [vi (sc xs (i + 1))] m (fun m2 => Inv m2 B) := c_count h (InR.r _)
  obtain ⟨d1, Q1, hd1, E1, K1⟩ := K0
  refine gl_aload_n dL_1322 rfl ?_
  refine gl_aload_n dL_1323 rfl ?_
  refine gl_iload dL_1324 rfl ?_
  refine gl_iconst dL_1326 ?_
  refine gl_iadd dL_1327 ?_
  refine gl_sload dL_1328 (by omega) (by omega) hn ?_
  refine gl_callR (as := [vi (sc xs (i + 1))]) (S := []) (b := 0) E1 (Or.inl rfl) dL_1329 cv_L_177 rfl rfl ob_0 rfl (by omega) (by decide) (fun r1 m1 hq1 hr1 => ?_)
  obtain ⟨d2, Q2, hd2, E2, K2⟩ := K1 r1 m1 hq1
  refine gl_aload_n dL_1332 rfl ?_
  refine gl_aload_n dL_1333 rfl ?_
  refine gl_iload dL_1334 rfl ?_
  refine gl_iconst dL_1336 ?_
  refine gl_iadd dL_1337 ?_
  refine gl_sload dL_1338 (by omega) (by omega) hn ?_
  refine gl_callR (as := [vi (sc xs (i + 1))]) (S := [vi r1]) (b := 214) E2 (Or.inl rfl) dL_1339 cv_L_180 rfl rfl ob_214 rfl (by omega) (Nat.le_of_ble_eq_true rfl) (fun r2 m2 hq2 hr2 => ?_)
  obtain ⟨hrr, hI⟩ := K2 r2 m2 hq2
  refine gl_icmp_eq (tgt := 1347) dL_1342 (by decide) hr1 hr2 (fun e => gl_weak (by omega) (k m2 (hI.all (by omega) (fun _ _ _ => rfl)))) (fun e => absurd hrr.symm e)
