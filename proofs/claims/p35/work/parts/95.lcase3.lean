theorem dL_law_1232 : decode cL_law 1232 = .ok (.aload_n 1, 1) := by decide +kernel
theorem dL_law_1233 : decode cL_law 1233 = .ok (.aload_n 0, 1) := by decide +kernel
theorem dL_law_1234 : decode cL_law 1234 = .ok (.iload 4, 2) := by decide +kernel
theorem dL_law_1236 : decode cL_law 1236 = .ok (.iconst 1, 1) := by decide +kernel
theorem dL_law_1237 : decode cL_law 1237 = .ok (.iadd, 1) := by decide +kernel
theorem dL_law_1238 : decode cL_law 1238 = .ok (.iaload, 1) := by decide +kernel
theorem dL_law_1239 : decode cL_law 1239 = .ok (.aload_n 3, 1) := by decide +kernel
theorem dL_law_1240 : decode cL_law 1240 = .ok (.invokestatic 201, 3) := by decide +kernel
theorem dL_law_1243 : decode cL_law 1243 = .ok (.istore 5, 2) := by decide +kernel
theorem dL_law_1245 : decode cL_law 1245 = .ok (.aload_n 2, 1) := by decide +kernel
theorem dL_law_1246 : decode cL_law 1246 = .ok (.aload_n 0, 1) := by decide +kernel
theorem dL_law_1247 : decode cL_law 1247 = .ok (.iload 4, 2) := by decide +kernel
theorem dL_law_1249 : decode cL_law 1249 = .ok (.iconst 1, 1) := by decide +kernel
theorem dL_law_1250 : decode cL_law 1250 = .ok (.iadd, 1) := by decide +kernel
theorem dL_law_1251 : decode cL_law 1251 = .ok (.iaload, 1) := by decide +kernel
theorem dL_law_1252 : decode cL_law 1252 = .ok (.invokevirtual 203, 3) := by decide +kernel
theorem dL_law_1255 : decode cL_law 1255 = .ok (.astore 6, 2) := by decide +kernel
theorem dL_law_1257 : decode cL_law 1257 = .ok (.goto 595, 3) := by decide +kernel
set_option maxHeartbeats 4000000 in
set_option maxRecDepth 100000 in
theorem lc_18 : Lc 1232 := by
  intro κ p l e s m args below meth c A ret b L o i xs a a2 r2 r q q2 f f2 n v cells slots Q H locs ls hst hX hx9 hbl hbA hi hL hok hm hr hB hl hc hs kk
  have hx := hX.1.1
  have hb := hX.1.2.1
  refine lv_aload_n hx hb dL_law_1232 rfl (lv_at hl 1 rfl) ?_
  obtain ⟨z1, e1⟩ : ∃ z, xs (6 * i + 1) = z := ⟨_, rfl⟩
  refine lv_scr (k := 1) hX hB hx9 hbl hbA hi hL hl dL_law_1233 dL_law_1234 dL_law_1236 dL_law_1237 dL_law_1238 (by decide) (by decide) e1 ?_
  refine lv_aload_n hx hb dL_law_1239 rfl (lv_at hl 3 rfl) ?_
  replace hB := Lw_1 hB
  refine call_SW (n := 3) (As := [.ref (a 0), .int z1, .ref o]) (rest := []) hX hB (CMW_frame (mw κ a2 r2 f2 q2 (tb a2) []) (w_text κ l hst a r q f o n v z1 hok)) ⟨by decide, by decide, by decide +kernel⟩ wm_3_223 wm_3_224 wm_1_0 wm_3_225 ⟨Nat.le_of_ble_eq_true rfl, Nat.le_of_ble_eq_true rfl⟩ ⟨by show _ ≤ 600128; omega, by show _ ≤ 7301098; omega⟩ rfl hl.1 rfl (Nat.le_of_ble_eq_true rfl) dL_law_1240 (fun o9 w' H locs hp hB => ?_)
  obtain ⟨_, ⟨x1, r1, q1, f1, n1, v1, rfl, ho, hq, hk, rfl⟩, rfl⟩ := hp
  refine W.eq (g2 := F0 m 1243 ls [.int x1]) rfl ?_
  refine lv_istore (lv' := [(5, .int x1), (0, .ref b), (1, .ref (a 0)), (2, .ref (a2 0)), (3, .ref o), (4, .int (nI (6 * i)))]) hx hb dL_law_1243 hl (by decide) rfl (fun ls hl => ?_)
  have hl0 := hl
  replace hl : lv_has ls 7 (Lv b (a 0) (a2 0) o i) := lv_sub hl [1, 2, 3, 4, 5] rfl
  refine lv_aload_n hx hb dL_law_1245 rfl (lv_at hl 2 rfl) ?_
  refine lv_scr (k := 1) hX hB hx9 hbl hbA hi hL hl dL_law_1246 dL_law_1247 dL_law_1249 dL_law_1250 dL_law_1251 (by decide) (by decide) e1 ?_
  replace hB := Lw_2 hB
  refine call_V (n := 1) (k0 := 0) (As := [.int z1]) (rest := []) hX hB (k_X10_text κ l (cw κ a r1 q1 f1 ++ [Ot o n1 v1]) a2 r2 f2 q2 z1 hm) ⟨rfl, by decide, by decide, by decide +kernel⟩ wm_7_26 wm_7_27 wm_7_28 wm_1_6 wm_7_29 ⟨Nat.le_of_ble_eq_true rfl, Nat.le_of_ble_eq_true rfl⟩ ⟨by show _ ≤ 600128; omega, by show _ ≤ 7301098; omega⟩ mw0 rfl rfl rfl hl.1 rfl (Nat.le_of_ble_eq_true rfl) dL_law_1252 (fun o9 w' H locs hp hB => ?_)
  obtain ⟨x2, q3, rfl, hfq, rfl⟩ := hp
  refine W.eq (g2 := F0 m 1255 ls [.ref x2]) rfl ?_
  refine lv_astore (lv' := [(6, .ref x2), (5, .int x1), (0, .ref b), (1, .ref (a 0)), (2, .ref (a2 0)), (3, .ref o), (4, .int (nI (6 * i)))]) hx hb dL_law_1255 hl0 (by decide) rfl (fun ls hl => ?_)
  have hl0 := hl
  replace hl : lv_has ls 7 (Lv b (a 0) (a2 0) o i) := lv_sub hl [2, 3, 4, 5, 6] rfl
  refine lv_goto (tgt := 1852) hx hb dL_law_1257 (by decide) ?_
  replace hB := Lw_3 hB
  refine W.widen (k := cells + 100) (n := slots + 70000) (by omega) (by omega) ?_
  exact kk _ _ _ _ _ _ _ _ _ _ _ _ (ho hok) hm (Rl_q (hk _ _ _ hr) hfq) rfl hB hl
theorem dL_law_1260 : decode cL_law 1260 = .ok (.aload_n 1, 1) := by decide +kernel
theorem dL_law_1261 : decode cL_law 1261 = .ok (.aload_n 0, 1) := by decide +kernel
theorem dL_law_1262 : decode cL_law 1262 = .ok (.iload 4, 2) := by decide +kernel
theorem dL_law_1264 : decode cL_law 1264 = .ok (.iconst 1, 1) := by decide +kernel
theorem dL_law_1265 : decode cL_law 1265 = .ok (.iadd, 1) := by decide +kernel
theorem dL_law_1266 : decode cL_law 1266 = .ok (.iaload, 1) := by decide +kernel
theorem dL_law_1267 : decode cL_law 1267 = .ok (.aload_n 0, 1) := by decide +kernel
theorem dL_law_1268 : decode cL_law 1268 = .ok (.iload 4, 2) := by decide +kernel
theorem dL_law_1270 : decode cL_law 1270 = .ok (.iconst 2, 1) := by decide +kernel
theorem dL_law_1271 : decode cL_law 1271 = .ok (.iadd, 1) := by decide +kernel
theorem dL_law_1272 : decode cL_law 1272 = .ok (.iaload, 1) := by decide +kernel
theorem dL_law_1273 : decode cL_law 1273 = .ok (.aload_n 3, 1) := by decide +kernel
theorem dL_law_1274 : decode cL_law 1274 = .ok (.invokestatic 204, 3) := by decide +kernel
theorem dL_law_1277 : decode cL_law 1277 = .ok (.istore 5, 2) := by decide +kernel
theorem dL_law_1279 : decode cL_law 1279 = .ok (.aload_n 2, 1) := by decide +kernel
theorem dL_law_1280 : decode cL_law 1280 = .ok (.aload_n 0, 1) := by decide +kernel
theorem dL_law_1281 : decode cL_law 1281 = .ok (.iload 4, 2) := by decide +kernel
theorem dL_law_1283 : decode cL_law 1283 = .ok (.iconst 1, 1) := by decide +kernel
theorem dL_law_1284 : decode cL_law 1284 = .ok (.iadd, 1) := by decide +kernel
theorem dL_law_1285 : decode cL_law 1285 = .ok (.iaload, 1) := by decide +kernel
theorem dL_law_1286 : decode cL_law 1286 = .ok (.aload_n 0, 1) := by decide +kernel
theorem dL_law_1287 : decode cL_law 1287 = .ok (.iload 4, 2) := by decide +kernel
theorem dL_law_1289 : decode cL_law 1289 = .ok (.iconst 2, 1) := by decide +kernel
theorem dL_law_1290 : decode cL_law 1290 = .ok (.iadd, 1) := by decide +kernel
theorem dL_law_1291 : decode cL_law 1291 = .ok (.iaload, 1) := by decide +kernel
theorem dL_law_1292 : decode cL_law 1292 = .ok (.invokevirtual 206, 3) := by decide +kernel
theorem dL_law_1295 : decode cL_law 1295 = .ok (.istore 6, 2) := by decide +kernel
theorem dL_law_1297 : decode cL_law 1297 = .ok (.goto 555, 3) := by decide +kernel
set_option maxHeartbeats 4000000 in
set_option maxRecDepth 100000 in
theorem lc_19 : Lc 1260 := by
  intro κ p l e s m args below meth c A ret b L o i xs a a2 r2 r q q2 f f2 n v cells slots Q H locs ls hst hX hx9 hbl hbA hi hL hok hm hr hB hl hc hs kk
  have hx := hX.1.1
  have hb := hX.1.2.1
  refine lv_aload_n hx hb dL_law_1260 rfl (lv_at hl 1 rfl) ?_
  obtain ⟨z1, e1⟩ : ∃ z, xs (6 * i + 1) = z := ⟨_, rfl⟩
  refine lv_scr (k := 1) hX hB hx9 hbl hbA hi hL hl dL_law_1261 dL_law_1262 dL_law_1264 dL_law_1265 dL_law_1266 (by decide) (by decide) e1 ?_
  obtain ⟨z2, e2⟩ : ∃ z, xs (6 * i + 2) = z := ⟨_, rfl⟩
  refine lv_scr (k := 2) hX hB hx9 hbl hbA hi hL hl dL_law_1267 dL_law_1268 dL_law_1270 dL_law_1271 dL_law_1272 (by decide) (by decide) e2 ?_
  refine lv_aload_n hx hb dL_law_1273 rfl (lv_at hl 3 rfl) ?_
  replace hB := Lw_1 hB
  obtain ⟨Y, hY⟩ : ∃ Y, D_X5_isSame r q f z1 z2 = Y := ⟨_, rfl⟩
  refine call_SW (n := 4) (As := [.ref (a 0), .int z1, .int z2, .ref o]) (rest := []) hX hB (CMW_frame (mw κ a2 r2 f2 q2 (tb a2) []) (w_isSame κ l hst a r q f o n v z1 z2 hok Y hY)) ⟨by decide, by decide, by decide +kernel⟩ wm_5_11 wm_5_12 wm_1_0 wm_5_13 ⟨Nat.le_of_ble_eq_true rfl, Nat.le_of_ble_eq_true rfl⟩ ⟨by show _ ≤ 600128; omega, by show _ ≤ 7301098; omega⟩ rfl hl.1 rfl (Nat.le_of_ble_eq_true rfl) dL_law_1274 (fun o9 w' H locs hp hB => ?_)
  obtain ⟨_, ⟨x1, n1, v1, rfl, ho, hq, hW, rfl⟩, rfl⟩ := hp
  refine W.eq (g2 := F0 m 1277 ls [.int x1]) rfl ?_
  refine lv_istore (lv' := [(5, .int x1), (0, .ref b), (1, .ref (a 0)), (2, .ref (a2 0)), (3, .ref o), (4, .int (nI (6 * i)))]) hx hb dL_law_1277 hl (by decide) rfl (fun ls hl => ?_)
  have hl0 := hl
  replace hl : lv_has ls 7 (Lv b (a 0) (a2 0) o i) := lv_sub hl [1, 2, 3, 4, 5] rfl
  refine lv_aload_n hx hb dL_law_1279 rfl (lv_at hl 2 rfl) ?_
  refine lv_scr (k := 1) hX hB hx9 hbl hbA hi hL hl dL_law_1280 dL_law_1281 dL_law_1283 dL_law_1284 dL_law_1285 (by decide) (by decide) e1 ?_
  refine lv_scr (k := 2) hX hB hx9 hbl hbA hi hL hl dL_law_1286 dL_law_1287 dL_law_1289 dL_law_1290 dL_law_1291 (by decide) (by decide) e2 ?_
  replace hB := Lw_2 hB
  obtain ⟨Z, hZ⟩ : ∃ Z, D_X10_isSame r2 f2 q2 z1 z2 = Z := ⟨_, rfl⟩
  refine call_V (n := 2) (k0 := 0) (As := [.int z1, .int z2]) (rest := []) hX hB (k_X10_isSame κ l (cw κ a Y.2.2.1 Y.2.2.2.1 Y.2.2.2.2 ++ [Ot o n1 v1]) a2 r2 f2 q2 z1 z2 hm _ _ (hZ.trans (te2 Z))) ⟨rfl, by decide, by decide, by decide +kernel⟩ wm_7_64 wm_7_65 wm_7_66 wm_1_6 wm_7_67 ⟨Nat.le_of_ble_eq_true rfl, Nat.le_of_ble_eq_true rfl⟩ ⟨by show _ ≤ 600128; omega, by show _ ≤ 7301098; omega⟩ mw0 rfl rfl rfl hl.1 rfl (Nat.le_of_ble_eq_true rfl) dL_law_1292 (fun o9 w' H locs hp hB => ?_)
  obtain ⟨rfl, hf0, hfq, rfl⟩ := hp
  have hK : RA r2 f2 q2 Y := by rw [← hY]; exact kp_isSame hr
  refine W.eq (g2 := F0 m 1295 ls [.int Z.1]) rfl ?_
  refine lv_istore (lv' := [(6, .int Z.1), (5, .int x1), (0, .ref b), (1, .ref (a 0)), (2, .ref (a2 0)), (3, .ref o), (4, .int (nI (6 * i)))]) hx hb dL_law_1295 hl0 (by decide) rfl (fun ls hl => ?_)
  have hl0 := hl
  replace hl : lv_has ls 7 (Lv b (a 0) (a2 0) o i) := lv_sub hl [2, 3, 4, 5, 6] rfl
  refine lv_goto (tgt := 1852) hx hb dL_law_1297 (by decide) ?_
  replace hB := Lw_3 hB
  refine W.widen (k := cells + 100) (n := slots + 70000) (by omega) (by omega) ?_
  exact kk _ _ _ _ _ _ _ _ _ _ _ _ (ho hok) hm (Rl_q hK hfq) rfl hB hl
theorem dL_law_1300 : decode cL_law 1300 = .ok (.aload_n 1, 1) := by decide +kernel
theorem dL_law_1301 : decode cL_law 1301 = .ok (.aload_n 0, 1) := by decide +kernel
theorem dL_law_1302 : decode cL_law 1302 = .ok (.iload 4, 2) := by decide +kernel
theorem dL_law_1304 : decode cL_law 1304 = .ok (.iconst 1, 1) := by decide +kernel
theorem dL_law_1305 : decode cL_law 1305 = .ok (.iadd, 1) := by decide +kernel
theorem dL_law_1306 : decode cL_law 1306 = .ok (.iaload, 1) := by decide +kernel
theorem dL_law_1307 : decode cL_law 1307 = .ok (.aload_n 0, 1) := by decide +kernel
theorem dL_law_1308 : decode cL_law 1308 = .ok (.iload 4, 2) := by decide +kernel
theorem dL_law_1310 : decode cL_law 1310 = .ok (.iconst 2, 1) := by decide +kernel
theorem dL_law_1311 : decode cL_law 1311 = .ok (.iadd, 1) := by decide +kernel
theorem dL_law_1312 : decode cL_law 1312 = .ok (.iaload, 1) := by decide +kernel
theorem dL_law_1313 : decode cL_law 1313 = .ok (.aload_n 3, 1) := by decide +kernel
theorem dL_law_1314 : decode cL_law 1314 = .ok (.invokestatic 207, 3) := by decide +kernel
theorem dL_law_1317 : decode cL_law 1317 = .ok (.istore 5, 2) := by decide +kernel
theorem dL_law_1319 : decode cL_law 1319 = .ok (.aload_n 2, 1) := by decide +kernel
theorem dL_law_1320 : decode cL_law 1320 = .ok (.aload_n 0, 1) := by decide +kernel
theorem dL_law_1321 : decode cL_law 1321 = .ok (.iload 4, 2) := by decide +kernel
theorem dL_law_1323 : decode cL_law 1323 = .ok (.iconst 1, 1) := by decide +kernel
theorem dL_law_1324 : decode cL_law 1324 = .ok (.iadd, 1) := by decide +kernel
theorem dL_law_1325 : decode cL_law 1325 = .ok (.iaload, 1) := by decide +kernel
theorem dL_law_1326 : decode cL_law 1326 = .ok (.aload_n 0, 1) := by decide +kernel
theorem dL_law_1327 : decode cL_law 1327 = .ok (.iload 4, 2) := by decide +kernel
theorem dL_law_1329 : decode cL_law 1329 = .ok (.iconst 2, 1) := by decide +kernel
theorem dL_law_1330 : decode cL_law 1330 = .ok (.iadd, 1) := by decide +kernel
theorem dL_law_1331 : decode cL_law 1331 = .ok (.iaload, 1) := by decide +kernel
theorem dL_law_1332 : decode cL_law 1332 = .ok (.invokevirtual 209, 3) := by decide +kernel
theorem dL_law_1335 : decode cL_law 1335 = .ok (.istore 6, 2) := by decide +kernel
theorem dL_law_1337 : decode cL_law 1337 = .ok (.goto 515, 3) := by decide +kernel
set_option maxHeartbeats 4000000 in
set_option maxRecDepth 100000 in
theorem lc_20 : Lc 1300 := by
  intro κ p l e s m args below meth c A ret b L o i xs a a2 r2 r q q2 f f2 n v cells slots Q H locs ls hst hX hx9 hbl hbA hi hL hok hm hr hB hl hc hs kk
  have hx := hX.1.1
  have hb := hX.1.2.1
  refine lv_aload_n hx hb dL_law_1300 rfl (lv_at hl 1 rfl) ?_
  obtain ⟨z1, e1⟩ : ∃ z, xs (6 * i + 1) = z := ⟨_, rfl⟩
  refine lv_scr (k := 1) hX hB hx9 hbl hbA hi hL hl dL_law_1301 dL_law_1302 dL_law_1304 dL_law_1305 dL_law_1306 (by decide) (by decide) e1 ?_
  obtain ⟨z2, e2⟩ : ∃ z, xs (6 * i + 2) = z := ⟨_, rfl⟩
  refine lv_scr (k := 2) hX hB hx9 hbl hbA hi hL hl dL_law_1307 dL_law_1308 dL_law_1310 dL_law_1311 dL_law_1312 (by decide) (by decide) e2 ?_
  refine lv_aload_n hx hb dL_law_1313 rfl (lv_at hl 3 rfl) ?_
  replace hB := Lw_1 hB
  obtain ⟨Y, hY⟩ : ∃ Y, D_X5_determinant r q f z1 z2 = Y := ⟨_, rfl⟩
  refine call_SW (n := 4) (As := [.ref (a 0), .int z1, .int z2, .ref o]) (rest := []) hX hB (CMW_frame (mw κ a2 r2 f2 q2 (tb a2) []) (w_determinant κ l hst a r q f o n v z1 z2 hok Y hY)) ⟨by decide, by decide, by decide +kernel⟩ wm_5_18 wm_5_19 wm_1_0 wm_5_20 ⟨Nat.le_of_ble_eq_true rfl, Nat.le_of_ble_eq_true rfl⟩ ⟨by show _ ≤ 600128; omega, by show _ ≤ 7301098; omega⟩ rfl hl.1 rfl (Nat.le_of_ble_eq_true rfl) dL_law_1314 (fun o9 w' H locs hp hB => ?_)
  obtain ⟨_, ⟨x1, n1, v1, rfl, ho, hq, hW, rfl⟩, rfl⟩ := hp
  refine W.eq (g2 := F0 m 1317 ls [.int x1]) rfl ?_
  refine lv_istore (lv' := [(5, .int x1), (0, .ref b), (1, .ref (a 0)), (2, .ref (a2 0)), (3, .ref o), (4, .int (nI (6 * i)))]) hx hb dL_law_1317 hl (by decide) rfl (fun ls hl => ?_)
  have hl0 := hl
  replace hl : lv_has ls 7 (Lv b (a 0) (a2 0) o i) := lv_sub hl [1, 2, 3, 4, 5] rfl
  refine lv_aload_n hx hb dL_law_1319 rfl (lv_at hl 2 rfl) ?_
  refine lv_scr (k := 1) hX hB hx9 hbl hbA hi hL hl dL_law_1320 dL_law_1321 dL_law_1323 dL_law_1324 dL_law_1325 (by decide) (by decide) e1 ?_
  refine lv_scr (k := 2) hX hB hx9 hbl hbA hi hL hl dL_law_1326 dL_law_1327 dL_law_1329 dL_law_1330 dL_law_1331 (by decide) (by decide) e2 ?_
  replace hB := Lw_2 hB
  obtain ⟨Z, hZ⟩ : ∃ Z, D_X10_determinant r2 f2 q2 z1 z2 = Z := ⟨_, rfl⟩
  refine call_V (n := 2) (k0 := 0) (As := [.int z1, .int z2]) (rest := []) hX hB (k_X10_determinant κ l (cw κ a Y.2.2.1 Y.2.2.2.1 Y.2.2.2.2 ++ [Ot o n1 v1]) a2 r2 f2 q2 z1 z2 hm _ _ (hZ.trans (te2 Z))) ⟨rfl, by decide, by decide, by decide +kernel⟩ wm_7_68 wm_7_69 wm_7_70 wm_1_6 wm_7_71 ⟨Nat.le_of_ble_eq_true rfl, Nat.le_of_ble_eq_true rfl⟩ ⟨by show _ ≤ 600128; omega, by show _ ≤ 7301098; omega⟩ mw0 rfl rfl rfl hl.1 rfl (Nat.le_of_ble_eq_true rfl) dL_law_1332 (fun o9 w' H locs hp hB => ?_)
  obtain ⟨rfl, hfq, rfl⟩ := hp
  have hK : RA r2 f2 q2 Y := by rw [← hY]; exact kp_determinant hr
  refine W.eq (g2 := F0 m 1335 ls [.int Z.1]) rfl ?_
  refine lv_istore (lv' := [(6, .int Z.1), (5, .int x1), (0, .ref b), (1, .ref (a 0)), (2, .ref (a2 0)), (3, .ref o), (4, .int (nI (6 * i)))]) hx hb dL_law_1335 hl0 (by decide) rfl (fun ls hl => ?_)
  have hl0 := hl
  replace hl : lv_has ls 7 (Lv b (a 0) (a2 0) o i) := lv_sub hl [2, 3, 4, 5, 6] rfl
  refine lv_goto (tgt := 1852) hx hb dL_law_1337 (by decide) ?_
  replace hB := Lw_3 hB
  refine W.widen (k := cells + 100) (n := slots + 70000) (by omega) (by omega) ?_
  exact kk _ _ _ _ _ _ _ _ _ _ _ _ (ho hok) hm (Rl_q hK hfq) rfl hB hl
theorem dL_law_1340 : decode cL_law 1340 = .ok (.aload_n 1, 1) := by decide +kernel
theorem dL_law_1341 : decode cL_law 1341 = .ok (.aload_n 0, 1) := by decide +kernel
theorem dL_law_1342 : decode cL_law 1342 = .ok (.iload 4, 2) := by decide +kernel
theorem dL_law_1344 : decode cL_law 1344 = .ok (.iconst 1, 1) := by decide +kernel
theorem dL_law_1345 : decode cL_law 1345 = .ok (.iadd, 1) := by decide +kernel
theorem dL_law_1346 : decode cL_law 1346 = .ok (.iaload, 1) := by decide +kernel
theorem dL_law_1347 : decode cL_law 1347 = .ok (.aload_n 0, 1) := by decide +kernel
theorem dL_law_1348 : decode cL_law 1348 = .ok (.iload 4, 2) := by decide +kernel
theorem dL_law_1350 : decode cL_law 1350 = .ok (.iconst 2, 1) := by decide +kernel
theorem dL_law_1351 : decode cL_law 1351 = .ok (.iadd, 1) := by decide +kernel
theorem dL_law_1352 : decode cL_law 1352 = .ok (.iaload, 1) := by decide +kernel
theorem dL_law_1353 : decode cL_law 1353 = .ok (.aload_n 0, 1) := by decide +kernel
theorem dL_law_1354 : decode cL_law 1354 = .ok (.iload 4, 2) := by decide +kernel
theorem dL_law_1356 : decode cL_law 1356 = .ok (.iconst 3, 1) := by decide +kernel
theorem dL_law_1357 : decode cL_law 1357 = .ok (.iadd, 1) := by decide +kernel
theorem dL_law_1358 : decode cL_law 1358 = .ok (.iaload, 1) := by decide +kernel
theorem dL_law_1359 : decode cL_law 1359 = .ok (.aload_n 3, 1) := by decide +kernel
theorem dL_law_1360 : decode cL_law 1360 = .ok (.invokestatic 210, 3) := by decide +kernel
theorem dL_law_1363 : decode cL_law 1363 = .ok (.istore 5, 2) := by decide +kernel
theorem dL_law_1365 : decode cL_law 1365 = .ok (.aload_n 2, 1) := by decide +kernel
theorem dL_law_1366 : decode cL_law 1366 = .ok (.aload_n 0, 1) := by decide +kernel
theorem dL_law_1367 : decode cL_law 1367 = .ok (.iload 4, 2) := by decide +kernel
theorem dL_law_1369 : decode cL_law 1369 = .ok (.iconst 1, 1) := by decide +kernel
theorem dL_law_1370 : decode cL_law 1370 = .ok (.iadd, 1) := by decide +kernel
theorem dL_law_1371 : decode cL_law 1371 = .ok (.iaload, 1) := by decide +kernel
theorem dL_law_1372 : decode cL_law 1372 = .ok (.aload_n 0, 1) := by decide +kernel
theorem dL_law_1373 : decode cL_law 1373 = .ok (.iload 4, 2) := by decide +kernel
theorem dL_law_1375 : decode cL_law 1375 = .ok (.iconst 2, 1) := by decide +kernel
theorem dL_law_1376 : decode cL_law 1376 = .ok (.iadd, 1) := by decide +kernel
theorem dL_law_1377 : decode cL_law 1377 = .ok (.iaload, 1) := by decide +kernel
theorem dL_law_1378 : decode cL_law 1378 = .ok (.aload_n 0, 1) := by decide +kernel
theorem dL_law_1379 : decode cL_law 1379 = .ok (.iload 4, 2) := by decide +kernel
theorem dL_law_1381 : decode cL_law 1381 = .ok (.iconst 3, 1) := by decide +kernel
theorem dL_law_1382 : decode cL_law 1382 = .ok (.iadd, 1) := by decide +kernel
theorem dL_law_1383 : decode cL_law 1383 = .ok (.iaload, 1) := by decide +kernel
theorem dL_law_1384 : decode cL_law 1384 = .ok (.invokevirtual 212, 3) := by decide +kernel
theorem dL_law_1387 : decode cL_law 1387 = .ok (.istore 6, 2) := by decide +kernel
theorem dL_law_1389 : decode cL_law 1389 = .ok (.goto 463, 3) := by decide +kernel
set_option maxHeartbeats 4000000 in
set_option maxRecDepth 100000 in
theorem lc_21 : Lc 1340 := by
  intro κ p l e s m args below meth c A ret b L o i xs a a2 r2 r q q2 f f2 n v cells slots Q H locs ls hst hX hx9 hbl hbA hi hL hok hm hr hB hl hc hs kk
  have hx := hX.1.1
  have hb := hX.1.2.1
  refine lv_aload_n hx hb dL_law_1340 rfl (lv_at hl 1 rfl) ?_
  obtain ⟨z1, e1⟩ : ∃ z, xs (6 * i + 1) = z := ⟨_, rfl⟩
  refine lv_scr (k := 1) hX hB hx9 hbl hbA hi hL hl dL_law_1341 dL_law_1342 dL_law_1344 dL_law_1345 dL_law_1346 (by decide) (by decide) e1 ?_
  obtain ⟨z2, e2⟩ : ∃ z, xs (6 * i + 2) = z := ⟨_, rfl⟩
  refine lv_scr (k := 2) hX hB hx9 hbl hbA hi hL hl dL_law_1347 dL_law_1348 dL_law_1350 dL_law_1351 dL_law_1352 (by decide) (by decide) e2 ?_
  obtain ⟨z3, e3⟩ : ∃ z, xs (6 * i + 3) = z := ⟨_, rfl⟩
  refine lv_scr (k := 3) hX hB hx9 hbl hbA hi hL hl dL_law_1353 dL_law_1354 dL_law_1356 dL_law_1357 dL_law_1358 (by decide) (by decide) e3 ?_
  refine lv_aload_n hx hb dL_law_1359 rfl (lv_at hl 3 rfl) ?_
  replace hB := Lw_1 hB
  obtain ⟨Y, hY⟩ : ∃ Y, D_X5_minor r q f z1 z2 z3 = Y := ⟨_, rfl⟩
  refine call_SW (n := 5) (As := [.ref (a 0), .int z1, .int z2, .int z3, .ref o]) (rest := []) hX hB (CMW_frame (mw κ a2 r2 f2 q2 (tb a2) []) (w_minor κ l hst a r q f o n v z1 z2 z3 hok Y hY)) ⟨by decide, by decide, by decide +kernel⟩ wm_5_45 wm_5_46 wm_1_0 wm_5_47 ⟨Nat.le_of_ble_eq_true rfl, Nat.le_of_ble_eq_true rfl⟩ ⟨by show _ ≤ 600128; omega, by show _ ≤ 7301098; omega⟩ rfl hl.1 rfl (Nat.le_of_ble_eq_true rfl) dL_law_1360 (fun o9 w' H locs hp hB => ?_)
  obtain ⟨_, ⟨x1, n1, v1, rfl, ho, hq, hW, rfl⟩, rfl⟩ := hp
  refine W.eq (g2 := F0 m 1363 ls [.int x1]) rfl ?_
  refine lv_istore (lv' := [(5, .int x1), (0, .ref b), (1, .ref (a 0)), (2, .ref (a2 0)), (3, .ref o), (4, .int (nI (6 * i)))]) hx hb dL_law_1363 hl (by decide) rfl (fun ls hl => ?_)
  have hl0 := hl
  replace hl : lv_has ls 7 (Lv b (a 0) (a2 0) o i) := lv_sub hl [1, 2, 3, 4, 5] rfl
  refine lv_aload_n hx hb dL_law_1365 rfl (lv_at hl 2 rfl) ?_
  refine lv_scr (k := 1) hX hB hx9 hbl hbA hi hL hl dL_law_1366 dL_law_1367 dL_law_1369 dL_law_1370 dL_law_1371 (by decide) (by decide) e1 ?_
  refine lv_scr (k := 2) hX hB hx9 hbl hbA hi hL hl dL_law_1372 dL_law_1373 dL_law_1375 dL_law_1376 dL_law_1377 (by decide) (by decide) e2 ?_
  refine lv_scr (k := 3) hX hB hx9 hbl hbA hi hL hl dL_law_1378 dL_law_1379 dL_law_1381 dL_law_1382 dL_law_1383 (by decide) (by decide) e3 ?_
  replace hB := Lw_2 hB
  obtain ⟨Z, hZ⟩ : ∃ Z, D_X10_minor r2 f2 q2 z1 z2 z3 = Z := ⟨_, rfl⟩
  refine call_V (n := 3) (k0 := 0) (As := [.int z1, .int z2, .int z3]) (rest := []) hX hB (k_X10_minor κ l (cw κ a Y.2.2.1 Y.2.2.2.1 Y.2.2.2.2 ++ [Ot o n1 v1]) a2 r2 f2 q2 z1 z2 z3 hm _ _ (hZ.trans (te2 Z))) ⟨rfl, by decide, by decide, by decide +kernel⟩ wm_7_88 wm_7_89 wm_7_90 wm_1_6 wm_7_91 ⟨Nat.le_of_ble_eq_true rfl, Nat.le_of_ble_eq_true rfl⟩ ⟨by show _ ≤ 600128; omega, by show _ ≤ 7301098; omega⟩ mw0 rfl rfl rfl hl.1 rfl (Nat.le_of_ble_eq_true rfl) dL_law_1384 (fun o9 w' H locs hp hB => ?_)
  obtain ⟨rfl, hfq, rfl⟩ := hp
  have hK : RA r2 f2 q2 Y := by rw [← hY]; exact kp_minor hr
  refine W.eq (g2 := F0 m 1387 ls [.int Z.1]) rfl ?_
  refine lv_istore (lv' := [(6, .int Z.1), (5, .int x1), (0, .ref b), (1, .ref (a 0)), (2, .ref (a2 0)), (3, .ref o), (4, .int (nI (6 * i)))]) hx hb dL_law_1387 hl0 (by decide) rfl (fun ls hl => ?_)
  have hl0 := hl
  replace hl : lv_has ls 7 (Lv b (a 0) (a2 0) o i) := lv_sub hl [2, 3, 4, 5, 6] rfl
  refine lv_goto (tgt := 1852) hx hb dL_law_1389 (by decide) ?_
  replace hB := Lw_3 hB
  refine W.widen (k := cells + 100) (n := slots + 70000) (by omega) (by omega) ?_
  exact kk _ _ _ _ _ _ _ _ _ _ _ _ (ho hok) hm (Rl_q hK hfq) rfl hB hl
theorem dL_law_1392 : decode cL_law 1392 = .ok (.aload_n 1, 1) := by decide +kernel
theorem dL_law_1393 : decode cL_law 1393 = .ok (.aload_n 0, 1) := by decide +kernel
theorem dL_law_1394 : decode cL_law 1394 = .ok (.iload 4, 2) := by decide +kernel
theorem dL_law_1396 : decode cL_law 1396 = .ok (.iconst 1, 1) := by decide +kernel
theorem dL_law_1397 : decode cL_law 1397 = .ok (.iadd, 1) := by decide +kernel
theorem dL_law_1398 : decode cL_law 1398 = .ok (.iaload, 1) := by decide +kernel
theorem dL_law_1399 : decode cL_law 1399 = .ok (.aload_n 0, 1) := by decide +kernel
theorem dL_law_1400 : decode cL_law 1400 = .ok (.iload 4, 2) := by decide +kernel
theorem dL_law_1402 : decode cL_law 1402 = .ok (.iconst 2, 1) := by decide +kernel
theorem dL_law_1403 : decode cL_law 1403 = .ok (.iadd, 1) := by decide +kernel
theorem dL_law_1404 : decode cL_law 1404 = .ok (.iaload, 1) := by decide +kernel
theorem dL_law_1405 : decode cL_law 1405 = .ok (.aload_n 3, 1) := by decide +kernel
theorem dL_law_1406 : decode cL_law 1406 = .ok (.invokestatic 213, 3) := by decide +kernel
theorem dL_law_1409 : decode cL_law 1409 = .ok (.istore 5, 2) := by decide +kernel
theorem dL_law_1411 : decode cL_law 1411 = .ok (.aload_n 2, 1) := by decide +kernel
theorem dL_law_1412 : decode cL_law 1412 = .ok (.aload_n 0, 1) := by decide +kernel
theorem dL_law_1413 : decode cL_law 1413 = .ok (.iload 4, 2) := by decide +kernel
theorem dL_law_1415 : decode cL_law 1415 = .ok (.iconst 1, 1) := by decide +kernel
theorem dL_law_1416 : decode cL_law 1416 = .ok (.iadd, 1) := by decide +kernel
theorem dL_law_1417 : decode cL_law 1417 = .ok (.iaload, 1) := by decide +kernel
theorem dL_law_1418 : decode cL_law 1418 = .ok (.aload_n 0, 1) := by decide +kernel
theorem dL_law_1419 : decode cL_law 1419 = .ok (.iload 4, 2) := by decide +kernel
theorem dL_law_1421 : decode cL_law 1421 = .ok (.iconst 2, 1) := by decide +kernel
theorem dL_law_1422 : decode cL_law 1422 = .ok (.iadd, 1) := by decide +kernel
theorem dL_law_1423 : decode cL_law 1423 = .ok (.iaload, 1) := by decide +kernel
theorem dL_law_1424 : decode cL_law 1424 = .ok (.invokevirtual 215, 3) := by decide +kernel
theorem dL_law_1427 : decode cL_law 1427 = .ok (.istore 6, 2) := by decide +kernel
theorem dL_law_1429 : decode cL_law 1429 = .ok (.goto 423, 3) := by decide +kernel
set_option maxHeartbeats 4000000 in
set_option maxRecDepth 100000 in
theorem lc_22 : Lc 1392 := by
  intro κ p l e s m args below meth c A ret b L o i xs a a2 r2 r q q2 f f2 n v cells slots Q H locs ls hst hX hx9 hbl hbA hi hL hok hm hr hB hl hc hs kk
  have hx := hX.1.1
  have hb := hX.1.2.1
  refine lv_aload_n hx hb dL_law_1392 rfl (lv_at hl 1 rfl) ?_
  obtain ⟨z1, e1⟩ : ∃ z, xs (6 * i + 1) = z := ⟨_, rfl⟩
  refine lv_scr (k := 1) hX hB hx9 hbl hbA hi hL hl dL_law_1393 dL_law_1394 dL_law_1396 dL_law_1397 dL_law_1398 (by decide) (by decide) e1 ?_
  obtain ⟨z2, e2⟩ : ∃ z, xs (6 * i + 2) = z := ⟨_, rfl⟩
  refine lv_scr (k := 2) hX hB hx9 hbl hbA hi hL hl dL_law_1399 dL_law_1400 dL_law_1402 dL_law_1403 dL_law_1404 (by decide) (by decide) e2 ?_
  refine lv_aload_n hx hb dL_law_1405 rfl (lv_at hl 3 rfl) ?_
  replace hB := Lw_1 hB
  obtain ⟨Y, hY⟩ : ∃ Y, D_X5_divisor r q f z1 z2 = Y := ⟨_, rfl⟩
  refine call_SW (n := 4) (As := [.ref (a 0), .int z1, .int z2, .ref o]) (rest := []) hX hB (CMW_frame (mw κ a2 r2 f2 q2 (tb a2) []) (w_divisor κ l hst a r q f o n v z1 z2 hok Y hY)) ⟨by decide, by decide, by decide +kernel⟩ wm_5_54 wm_5_55 wm_1_0 wm_5_56 ⟨Nat.le_of_ble_eq_true rfl, Nat.le_of_ble_eq_true rfl⟩ ⟨by show _ ≤ 600128; omega, by show _ ≤ 7301098; omega⟩ rfl hl.1 rfl (Nat.le_of_ble_eq_true rfl) dL_law_1406 (fun o9 w' H locs hp hB => ?_)
  obtain ⟨_, ⟨x1, n1, v1, rfl, ho, hq, hW, rfl⟩, rfl⟩ := hp
  refine W.eq (g2 := F0 m 1409 ls [.int x1]) rfl ?_
  refine lv_istore (lv' := [(5, .int x1), (0, .ref b), (1, .ref (a 0)), (2, .ref (a2 0)), (3, .ref o), (4, .int (nI (6 * i)))]) hx hb dL_law_1409 hl (by decide) rfl (fun ls hl => ?_)
  have hl0 := hl
  replace hl : lv_has ls 7 (Lv b (a 0) (a2 0) o i) := lv_sub hl [1, 2, 3, 4, 5] rfl
  refine lv_aload_n hx hb dL_law_1411 rfl (lv_at hl 2 rfl) ?_
  refine lv_scr (k := 1) hX hB hx9 hbl hbA hi hL hl dL_law_1412 dL_law_1413 dL_law_1415 dL_law_1416 dL_law_1417 (by decide) (by decide) e1 ?_
  refine lv_scr (k := 2) hX hB hx9 hbl hbA hi hL hl dL_law_1418 dL_law_1419 dL_law_1421 dL_law_1422 dL_law_1423 (by decide) (by decide) e2 ?_
  replace hB := Lw_2 hB
  obtain ⟨Z, hZ⟩ : ∃ Z, D_X10_divisor r2 f2 q2 z1 z2 = Z := ⟨_, rfl⟩
  refine call_V (n := 2) (k0 := 0) (As := [.int z1, .int z2]) (rest := []) hX hB (k_X10_divisor κ l (cw κ a Y.2.2.1 Y.2.2.2.1 Y.2.2.2.2 ++ [Ot o n1 v1]) a2 r2 f2 q2 z1 z2 hm _ _ (hZ.trans (te2 Z))) ⟨rfl, by decide, by decide, by decide +kernel⟩ wm_7_92 wm_7_93 wm_7_94 wm_1_6 wm_7_95 ⟨Nat.le_of_ble_eq_true rfl, Nat.le_of_ble_eq_true rfl⟩ ⟨by show _ ≤ 600128; omega, by show _ ≤ 7301098; omega⟩ mw0 rfl rfl rfl hl.1 rfl (Nat.le_of_ble_eq_true rfl) dL_law_1424 (fun o9 w' H locs hp hB => ?_)
  obtain ⟨rfl, hfq, rfl⟩ := hp
  have hK : RA r2 f2 q2 Y := by rw [← hY]; exact kp_divisor hr
  refine W.eq (g2 := F0 m 1427 ls [.int Z.1]) rfl ?_
  refine lv_istore (lv' := [(6, .int Z.1), (5, .int x1), (0, .ref b), (1, .ref (a 0)), (2, .ref (a2 0)), (3, .ref o), (4, .int (nI (6 * i)))]) hx hb dL_law_1427 hl0 (by decide) rfl (fun ls hl => ?_)
  have hl0 := hl
  replace hl : lv_has ls 7 (Lv b (a 0) (a2 0) o i) := lv_sub hl [2, 3, 4, 5, 6] rfl
  refine lv_goto (tgt := 1852) hx hb dL_law_1429 (by decide) ?_
  replace hB := Lw_3 hB
  refine W.widen (k := cells + 100) (n := slots + 70000) (by omega) (by omega) ?_
  exact kk _ _ _ _ _ _ _ _ _ _ _ _ (ho hok) hm (Rl_q hK hfq) rfl hB hl
theorem dL_law_1432 : decode cL_law 1432 = .ok (.aload_n 1, 1) := by decide +kernel
theorem dL_law_1433 : decode cL_law 1433 = .ok (.aload_n 0, 1) := by decide +kernel
theorem dL_law_1434 : decode cL_law 1434 = .ok (.iload 4, 2) := by decide +kernel
theorem dL_law_1436 : decode cL_law 1436 = .ok (.iconst 1, 1) := by decide +kernel
theorem dL_law_1437 : decode cL_law 1437 = .ok (.iadd, 1) := by decide +kernel
theorem dL_law_1438 : decode cL_law 1438 = .ok (.iaload, 1) := by decide +kernel
theorem dL_law_1439 : decode cL_law 1439 = .ok (.aload_n 0, 1) := by decide +kernel
theorem dL_law_1440 : decode cL_law 1440 = .ok (.iload 4, 2) := by decide +kernel
theorem dL_law_1442 : decode cL_law 1442 = .ok (.iconst 2, 1) := by decide +kernel
theorem dL_law_1443 : decode cL_law 1443 = .ok (.iadd, 1) := by decide +kernel
theorem dL_law_1444 : decode cL_law 1444 = .ok (.iaload, 1) := by decide +kernel
theorem dL_law_1445 : decode cL_law 1445 = .ok (.aload_n 3, 1) := by decide +kernel
theorem dL_law_1446 : decode cL_law 1446 = .ok (.invokestatic 216, 3) := by decide +kernel
theorem dL_law_1449 : decode cL_law 1449 = .ok (.istore 5, 2) := by decide +kernel
theorem dL_law_1451 : decode cL_law 1451 = .ok (.aload_n 2, 1) := by decide +kernel
theorem dL_law_1452 : decode cL_law 1452 = .ok (.aload_n 0, 1) := by decide +kernel
theorem dL_law_1453 : decode cL_law 1453 = .ok (.iload 4, 2) := by decide +kernel
theorem dL_law_1455 : decode cL_law 1455 = .ok (.iconst 1, 1) := by decide +kernel
theorem dL_law_1456 : decode cL_law 1456 = .ok (.iadd, 1) := by decide +kernel
theorem dL_law_1457 : decode cL_law 1457 = .ok (.iaload, 1) := by decide +kernel
theorem dL_law_1458 : decode cL_law 1458 = .ok (.aload_n 0, 1) := by decide +kernel
theorem dL_law_1459 : decode cL_law 1459 = .ok (.iload 4, 2) := by decide +kernel
theorem dL_law_1461 : decode cL_law 1461 = .ok (.iconst 2, 1) := by decide +kernel
theorem dL_law_1462 : decode cL_law 1462 = .ok (.iadd, 1) := by decide +kernel
theorem dL_law_1463 : decode cL_law 1463 = .ok (.iaload, 1) := by decide +kernel
theorem dL_law_1464 : decode cL_law 1464 = .ok (.invokevirtual 218, 3) := by decide +kernel
theorem dL_law_1467 : decode cL_law 1467 = .ok (.istore 6, 2) := by decide +kernel
theorem dL_law_1469 : decode cL_law 1469 = .ok (.goto 383, 3) := by decide +kernel
set_option maxHeartbeats 4000000 in
set_option maxRecDepth 100000 in
theorem lc_23 : Lc 1432 := by
  intro κ p l e s m args below meth c A ret b L o i xs a a2 r2 r q q2 f f2 n v cells slots Q H locs ls hst hX hx9 hbl hbA hi hL hok hm hr hB hl hc hs kk
  have hx := hX.1.1
  have hb := hX.1.2.1
  refine lv_aload_n hx hb dL_law_1432 rfl (lv_at hl 1 rfl) ?_
  obtain ⟨z1, e1⟩ : ∃ z, xs (6 * i + 1) = z := ⟨_, rfl⟩
  refine lv_scr (k := 1) hX hB hx9 hbl hbA hi hL hl dL_law_1433 dL_law_1434 dL_law_1436 dL_law_1437 dL_law_1438 (by decide) (by decide) e1 ?_
  obtain ⟨z2, e2⟩ : ∃ z, xs (6 * i + 2) = z := ⟨_, rfl⟩
  refine lv_scr (k := 2) hX hB hx9 hbl hbA hi hL hl dL_law_1439 dL_law_1440 dL_law_1442 dL_law_1443 dL_law_1444 (by decide) (by decide) e2 ?_
  refine lv_aload_n hx hb dL_law_1445 rfl (lv_at hl 3 rfl) ?_
  replace hB := Lw_1 hB
  obtain ⟨Y, hY⟩ : ∃ Y, D_X5_rank r q f z1 z2 = Y := ⟨_, rfl⟩
  refine call_SW (n := 4) (As := [.ref (a 0), .int z1, .int z2, .ref o]) (rest := []) hX hB (CMW_frame (mw κ a2 r2 f2 q2 (tb a2) []) (w_rank κ l hst a r q f o n v z1 z2 hok Y hY)) ⟨by decide, by decide, by decide +kernel⟩ wm_5_61 wm_5_62 wm_1_0 wm_5_63 ⟨Nat.le_of_ble_eq_true rfl, Nat.le_of_ble_eq_true rfl⟩ ⟨by show _ ≤ 600128; omega, by show _ ≤ 7301098; omega⟩ rfl hl.1 rfl (Nat.le_of_ble_eq_true rfl) dL_law_1446 (fun o9 w' H locs hp hB => ?_)
  obtain ⟨_, ⟨x1, n1, v1, rfl, ho, hq, hW, rfl⟩, rfl⟩ := hp
  refine W.eq (g2 := F0 m 1449 ls [.int x1]) rfl ?_
  refine lv_istore (lv' := [(5, .int x1), (0, .ref b), (1, .ref (a 0)), (2, .ref (a2 0)), (3, .ref o), (4, .int (nI (6 * i)))]) hx hb dL_law_1449 hl (by decide) rfl (fun ls hl => ?_)
  have hl0 := hl
  replace hl : lv_has ls 7 (Lv b (a 0) (a2 0) o i) := lv_sub hl [1, 2, 3, 4, 5] rfl
  refine lv_aload_n hx hb dL_law_1451 rfl (lv_at hl 2 rfl) ?_
  refine lv_scr (k := 1) hX hB hx9 hbl hbA hi hL hl dL_law_1452 dL_law_1453 dL_law_1455 dL_law_1456 dL_law_1457 (by decide) (by decide) e1 ?_
  refine lv_scr (k := 2) hX hB hx9 hbl hbA hi hL hl dL_law_1458 dL_law_1459 dL_law_1461 dL_law_1462 dL_law_1463 (by decide) (by decide) e2 ?_
  replace hB := Lw_2 hB
  obtain ⟨Z, hZ⟩ : ∃ Z, D_X10_rank r2 f2 q2 z1 z2 = Z := ⟨_, rfl⟩
  refine call_V (n := 2) (k0 := 0) (As := [.int z1, .int z2]) (rest := []) hX hB (k_X10_rank κ l (cw κ a Y.2.2.1 Y.2.2.2.1 Y.2.2.2.2 ++ [Ot o n1 v1]) a2 r2 f2 q2 z1 z2 hm _ _ (hZ.trans (te2 Z))) ⟨rfl, by decide, by decide, by decide +kernel⟩ wm_7_107 wm_7_108 wm_7_109 wm_1_6 wm_7_110 ⟨Nat.le_of_ble_eq_true rfl, Nat.le_of_ble_eq_true rfl⟩ ⟨by show _ ≤ 600128; omega, by show _ ≤ 7301098; omega⟩ mw0 rfl rfl rfl hl.1 rfl (Nat.le_of_ble_eq_true rfl) dL_law_1464 (fun o9 w' H locs hp hB => ?_)
  obtain ⟨rfl, hfq, rfl⟩ := hp
  have hK : RA r2 f2 q2 Y := by rw [← hY]; exact kp_rank hr
  refine W.eq (g2 := F0 m 1467 ls [.int Z.1]) rfl ?_
  refine lv_istore (lv' := [(6, .int Z.1), (5, .int x1), (0, .ref b), (1, .ref (a 0)), (2, .ref (a2 0)), (3, .ref o), (4, .int (nI (6 * i)))]) hx hb dL_law_1467 hl0 (by decide) rfl (fun ls hl => ?_)
  have hl0 := hl
  replace hl : lv_has ls 7 (Lv b (a 0) (a2 0) o i) := lv_sub hl [2, 3, 4, 5, 6] rfl
  refine lv_goto (tgt := 1852) hx hb dL_law_1469 (by decide) ?_
  replace hB := Lw_3 hB
  refine W.widen (k := cells + 100) (n := slots + 70000) (by omega) (by omega) ?_
  exact kk _ _ _ _ _ _ _ _ _ _ _ _ (ho hok) hm (Rl_q hK hfq) rfl hB hl
