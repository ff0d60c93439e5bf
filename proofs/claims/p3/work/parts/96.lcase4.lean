theorem dL_law_1501 : decode cL_law 1501 = .ok (.aload_n 1, 1) := dz_e0 dz_43 hI_L_law (by decide +kernel)
theorem dL_law_1502 : decode cL_law 1502 = .ok (.aload_n 0, 1) := dz_e0 dz_42 hI_L_law (by decide +kernel)
theorem dL_law_1503 : decode cL_law 1503 = .ok (.iload 4, 2) := dz_e1 dz_21 hI_L_law (by decide +kernel)
theorem dL_law_1505 : decode cL_law 1505 = .ok (.iconst 1, 1) := dz_e0 dz_4 hI_L_law (by decide +kernel)
theorem dL_law_1506 : decode cL_law 1506 = .ok (.iadd, 1) := dz_e0 dz_96 hI_L_law (by decide +kernel)
theorem dL_law_1507 : decode cL_law 1507 = .ok (.iaload, 1) := dz_e0 dz_46 hI_L_law (by decide +kernel)
theorem dL_law_1508 : decode cL_law 1508 = .ok (.aload_n 0, 1) := dz_e0 dz_42 hI_L_law (by decide +kernel)
theorem dL_law_1509 : decode cL_law 1509 = .ok (.iload 4, 2) := dz_e1 dz_21 hI_L_law (by decide +kernel)
theorem dL_law_1511 : decode cL_law 1511 = .ok (.iconst 2, 1) := dz_e0 dz_5 hI_L_law (by decide +kernel)
theorem dL_law_1512 : decode cL_law 1512 = .ok (.iadd, 1) := dz_e0 dz_96 hI_L_law (by decide +kernel)
theorem dL_law_1513 : decode cL_law 1513 = .ok (.iaload, 1) := dz_e0 dz_46 hI_L_law (by decide +kernel)
theorem dL_law_1514 : decode cL_law 1514 = .ok (.aload_n 0, 1) := dz_e0 dz_42 hI_L_law (by decide +kernel)
theorem dL_law_1515 : decode cL_law 1515 = .ok (.iload 4, 2) := dz_e1 dz_21 hI_L_law (by decide +kernel)
theorem dL_law_1517 : decode cL_law 1517 = .ok (.iconst 3, 1) := dz_e0 dz_6 hI_L_law (by decide +kernel)
theorem dL_law_1518 : decode cL_law 1518 = .ok (.iadd, 1) := dz_e0 dz_96 hI_L_law (by decide +kernel)
theorem dL_law_1519 : decode cL_law 1519 = .ok (.iaload, 1) := dz_e0 dz_46 hI_L_law (by decide +kernel)
theorem dL_law_1520 : decode cL_law 1520 = .ok (.aload_n 0, 1) := dz_e0 dz_42 hI_L_law (by decide +kernel)
theorem dL_law_1521 : decode cL_law 1521 = .ok (.iload 4, 2) := dz_e1 dz_21 hI_L_law (by decide +kernel)
theorem dL_law_1523 : decode cL_law 1523 = .ok (.iconst 4, 1) := dz_e0 dz_7 hI_L_law (by decide +kernel)
theorem dL_law_1524 : decode cL_law 1524 = .ok (.iadd, 1) := dz_e0 dz_96 hI_L_law (by decide +kernel)
theorem dL_law_1525 : decode cL_law 1525 = .ok (.iaload, 1) := dz_e0 dz_46 hI_L_law (by decide +kernel)
theorem dL_law_1526 : decode cL_law 1526 = .ok (.aload_n 3, 1) := dz_e0 dz_45 hI_L_law (by decide +kernel)
theorem dL_law_1527 : decode cL_law 1527 = .ok (.invokestatic 223, 3) := dz_e2 dz_184 hI_L_law (by decide +kernel)
theorem dL_law_1530 : decode cL_law 1530 = .ok (.istore 5, 2) := dz_e1 dz_54 hI_L_law (by decide +kernel)
theorem dL_law_1532 : decode cL_law 1532 = .ok (.aload_n 2, 1) := dz_e0 dz_44 hI_L_law (by decide +kernel)
theorem dL_law_1533 : decode cL_law 1533 = .ok (.aload_n 0, 1) := dz_e0 dz_42 hI_L_law (by decide +kernel)
theorem dL_law_1534 : decode cL_law 1534 = .ok (.iload 4, 2) := dz_e1 dz_21 hI_L_law (by decide +kernel)
theorem dL_law_1536 : decode cL_law 1536 = .ok (.iconst 1, 1) := dz_e0 dz_4 hI_L_law (by decide +kernel)
theorem dL_law_1537 : decode cL_law 1537 = .ok (.iadd, 1) := dz_e0 dz_96 hI_L_law (by decide +kernel)
theorem dL_law_1538 : decode cL_law 1538 = .ok (.iaload, 1) := dz_e0 dz_46 hI_L_law (by decide +kernel)
theorem dL_law_1539 : decode cL_law 1539 = .ok (.aload_n 0, 1) := dz_e0 dz_42 hI_L_law (by decide +kernel)
theorem dL_law_1540 : decode cL_law 1540 = .ok (.iload 4, 2) := dz_e1 dz_21 hI_L_law (by decide +kernel)
theorem dL_law_1542 : decode cL_law 1542 = .ok (.iconst 2, 1) := dz_e0 dz_5 hI_L_law (by decide +kernel)
theorem dL_law_1543 : decode cL_law 1543 = .ok (.iadd, 1) := dz_e0 dz_96 hI_L_law (by decide +kernel)
theorem dL_law_1544 : decode cL_law 1544 = .ok (.iaload, 1) := dz_e0 dz_46 hI_L_law (by decide +kernel)
theorem dL_law_1545 : decode cL_law 1545 = .ok (.aload_n 0, 1) := dz_e0 dz_42 hI_L_law (by decide +kernel)
theorem dL_law_1546 : decode cL_law 1546 = .ok (.iload 4, 2) := dz_e1 dz_21 hI_L_law (by decide +kernel)
theorem dL_law_1548 : decode cL_law 1548 = .ok (.iconst 3, 1) := dz_e0 dz_6 hI_L_law (by decide +kernel)
theorem dL_law_1549 : decode cL_law 1549 = .ok (.iadd, 1) := dz_e0 dz_96 hI_L_law (by decide +kernel)
theorem dL_law_1550 : decode cL_law 1550 = .ok (.iaload, 1) := dz_e0 dz_46 hI_L_law (by decide +kernel)
theorem dL_law_1551 : decode cL_law 1551 = .ok (.aload_n 0, 1) := dz_e0 dz_42 hI_L_law (by decide +kernel)
theorem dL_law_1552 : decode cL_law 1552 = .ok (.iload 4, 2) := dz_e1 dz_21 hI_L_law (by decide +kernel)
theorem dL_law_1554 : decode cL_law 1554 = .ok (.iconst 4, 1) := dz_e0 dz_7 hI_L_law (by decide +kernel)
theorem dL_law_1555 : decode cL_law 1555 = .ok (.iadd, 1) := dz_e0 dz_96 hI_L_law (by decide +kernel)
theorem dL_law_1556 : decode cL_law 1556 = .ok (.iaload, 1) := dz_e0 dz_46 hI_L_law (by decide +kernel)
theorem dL_law_1557 : decode cL_law 1557 = .ok (.invokevirtual 225, 3) := dz_e2 dz_182 hI_L_law (by decide +kernel)
theorem dL_law_1560 : decode cL_law 1560 = .ok (.istore 6, 2) := dz_e1 dz_54 hI_L_law (by decide +kernel)
theorem dL_law_1562 : decode cL_law 1562 = .ok (.goto 318, 3) := dz_f2 dz_167 hI_L_law (by decide +kernel)
set_option maxHeartbeats 4000000 in
set_option maxRecDepth 100000 in
theorem lc_24 : Lc 1501 := by
  intro κ p l e s m args below meth c A ret b L o i xs a a2 r2 r q q2 f f2 n v cells slots Q H locs ls hst hX hx9 hbl hbA hi hL hok hm hr hB hl hc hs kk
  have hx := hX.1.1
  have hb := hX.1.2.1
  refine lv_aload_n hx hb dL_law_1501 rfl (lv_at hl 1 rfl) ?_
  obtain ⟨z1, e1⟩ : ∃ z, xs (6 * i + 1) = z := ⟨_, rfl⟩
  refine lv_scr (k := 1) hX hB hx9 hbl hbA hi hL hl dL_law_1502 dL_law_1503 dL_law_1505 dL_law_1506 dL_law_1507 (by decide) (by decide) e1 ?_
  obtain ⟨z2, e2⟩ : ∃ z, xs (6 * i + 2) = z := ⟨_, rfl⟩
  refine lv_scr (k := 2) hX hB hx9 hbl hbA hi hL hl dL_law_1508 dL_law_1509 dL_law_1511 dL_law_1512 dL_law_1513 (by decide) (by decide) e2 ?_
  obtain ⟨z3, e3⟩ : ∃ z, xs (6 * i + 3) = z := ⟨_, rfl⟩
  refine lv_scr (k := 3) hX hB hx9 hbl hbA hi hL hl dL_law_1514 dL_law_1515 dL_law_1517 dL_law_1518 dL_law_1519 (by decide) (by decide) e3 ?_
  obtain ⟨z4, e4⟩ : ∃ z, xs (6 * i + 4) = z := ⟨_, rfl⟩
  refine lv_scr (k := 4) hX hB hx9 hbl hbA hi hL hl dL_law_1520 dL_law_1521 dL_law_1523 dL_law_1524 dL_law_1525 (by decide) (by decide) e4 ?_
  refine lv_aload_n hx hb dL_law_1526 rfl (lv_at hl 3 rfl) ?_
  replace hB := Lw_1 hB
  obtain ⟨Y, hY⟩ : ∃ Y, D_X5_told r q f z1 z2 z3 z4 = Y := ⟨_, rfl⟩
  refine call_SW (n := 6) (As := [.ref (a 0), .int z1, .int z2, .int z3, .int z4, .ref o]) (rest := []) hX hB (CMW_frame (mw κ a2 r2 f2 q2 (tb a2) []) (w_told κ l hst a r q f o n v z1 z2 z3 z4 hok Y hY)) ⟨by decide, by decide, by decide +kernel⟩ wm_5_68 wm_5_69 wm_1_0 wm_5_70 ⟨Nat.le_of_ble_eq_true rfl, Nat.le_of_ble_eq_true rfl⟩ ⟨by show _ ≤ 600128; omega, by show _ ≤ 7301098; omega⟩ rfl hl.1 rfl (Nat.le_of_ble_eq_true rfl) dL_law_1527 (fun o9 w' H locs hp hB => ?_)
  obtain ⟨_, ⟨x1, n1, v1, rfl, ho, hq, hW, rfl⟩, rfl⟩ := hp
  refine W.eq (g2 := F0 m 1530 ls [.int x1]) rfl ?_
  refine lv_istore (lv' := [(5, .int x1), (0, .ref b), (1, .ref (a 0)), (2, .ref (a2 0)), (3, .ref o), (4, .int (nI (6 * i)))]) hx hb dL_law_1530 hl (by decide) rfl (fun ls hl => ?_)
  have hl0 := hl
  replace hl : lv_has ls 7 (Lv b (a 0) (a2 0) o i) := lv_sub hl [1, 2, 3, 4, 5] rfl
  refine lv_aload_n hx hb dL_law_1532 rfl (lv_at hl 2 rfl) ?_
  refine lv_scr (k := 1) hX hB hx9 hbl hbA hi hL hl dL_law_1533 dL_law_1534 dL_law_1536 dL_law_1537 dL_law_1538 (by decide) (by decide) e1 ?_
  refine lv_scr (k := 2) hX hB hx9 hbl hbA hi hL hl dL_law_1539 dL_law_1540 dL_law_1542 dL_law_1543 dL_law_1544 (by decide) (by decide) e2 ?_
  refine lv_scr (k := 3) hX hB hx9 hbl hbA hi hL hl dL_law_1545 dL_law_1546 dL_law_1548 dL_law_1549 dL_law_1550 (by decide) (by decide) e3 ?_
  refine lv_scr (k := 4) hX hB hx9 hbl hbA hi hL hl dL_law_1551 dL_law_1552 dL_law_1554 dL_law_1555 dL_law_1556 (by decide) (by decide) e4 ?_
  replace hB := Lw_2 hB
  obtain ⟨Z, hZ⟩ : ∃ Z, D_X10_told_ r2 f2 q2 z1 z2 z3 z4 = Z := ⟨_, rfl⟩
  refine call_V (n := 4) (k0 := 0) (As := [.int z1, .int z2, .int z3, .int z4]) (rest := []) hX hB (k_X10_told_ κ l (cw κ a Y.2.2.1 Y.2.2.2.1 Y.2.2.2.2 ++ [Ot o n1 v1]) a2 r2 f2 q2 z1 z2 z3 z4 hm _ _ (hZ.trans (te2 Z))) ⟨rfl, by decide, by decide, by decide +kernel⟩ wm_7_125 wm_7_126 wm_7_127 wm_1_6 wm_7_128 ⟨Nat.le_of_ble_eq_true rfl, Nat.le_of_ble_eq_true rfl⟩ ⟨by show _ ≤ 600128; omega, by show _ ≤ 7301098; omega⟩ mw0 rfl rfl rfl hl.1 rfl (Nat.le_of_ble_eq_true rfl) dL_law_1557 (fun o9 w' H locs hp hB => ?_)
  obtain ⟨rfl, hfq, rfl⟩ := hp
  have hK : RA r2 f2 q2 Y := by rw [← hY]; exact kp_told hr
  refine W.eq (g2 := F0 m 1560 ls [.int Z.1]) rfl ?_
  refine lv_istore (lv' := [(6, .int Z.1), (5, .int x1), (0, .ref b), (1, .ref (a 0)), (2, .ref (a2 0)), (3, .ref o), (4, .int (nI (6 * i)))]) hx hb dL_law_1560 hl0 (by decide) rfl (fun ls hl => ?_)
  have hl0 := hl
  replace hl : lv_has ls 7 (Lv b (a 0) (a2 0) o i) := lv_sub hl [2, 3, 4, 5, 6] rfl
  refine lv_goto (tgt := 1880) hx hb dL_law_1562 (by decide) ?_
  replace hB := Lw_3 hB
  refine W.widen (k := cells + 100) (n := slots + 70000) (by omega) (by omega) ?_
  exact kk _ _ _ _ _ _ _ _ _ _ _ _ (ho hok) hm (Rl_q hK hfq) rfl hB hl
theorem dL_law_1565 : decode cL_law 1565 = .ok (.aload_n 1, 1) := dz_e0 dz_43 hI_L_law (by decide +kernel)
theorem dL_law_1566 : decode cL_law 1566 = .ok (.aload_n 0, 1) := dz_e0 dz_42 hI_L_law (by decide +kernel)
theorem dL_law_1567 : decode cL_law 1567 = .ok (.iload 4, 2) := dz_e1 dz_21 hI_L_law (by decide +kernel)
theorem dL_law_1569 : decode cL_law 1569 = .ok (.iconst 1, 1) := dz_e0 dz_4 hI_L_law (by decide +kernel)
theorem dL_law_1570 : decode cL_law 1570 = .ok (.iadd, 1) := dz_e0 dz_96 hI_L_law (by decide +kernel)
theorem dL_law_1571 : decode cL_law 1571 = .ok (.iaload, 1) := dz_e0 dz_46 hI_L_law (by decide +kernel)
theorem dL_law_1572 : decode cL_law 1572 = .ok (.aload_n 0, 1) := dz_e0 dz_42 hI_L_law (by decide +kernel)
theorem dL_law_1573 : decode cL_law 1573 = .ok (.iload 4, 2) := dz_e1 dz_21 hI_L_law (by decide +kernel)
theorem dL_law_1575 : decode cL_law 1575 = .ok (.iconst 2, 1) := dz_e0 dz_5 hI_L_law (by decide +kernel)
theorem dL_law_1576 : decode cL_law 1576 = .ok (.iadd, 1) := dz_e0 dz_96 hI_L_law (by decide +kernel)
theorem dL_law_1577 : decode cL_law 1577 = .ok (.iaload, 1) := dz_e0 dz_46 hI_L_law (by decide +kernel)
theorem dL_law_1578 : decode cL_law 1578 = .ok (.aload_n 3, 1) := dz_e0 dz_45 hI_L_law (by decide +kernel)
theorem dL_law_1579 : decode cL_law 1579 = .ok (.invokestatic 226, 3) := dz_e2 dz_184 hI_L_law (by decide +kernel)
theorem dL_law_1582 : decode cL_law 1582 = .ok (.istore 5, 2) := dz_e1 dz_54 hI_L_law (by decide +kernel)
theorem dL_law_1584 : decode cL_law 1584 = .ok (.aload_n 2, 1) := dz_e0 dz_44 hI_L_law (by decide +kernel)
theorem dL_law_1585 : decode cL_law 1585 = .ok (.aload_n 0, 1) := dz_e0 dz_42 hI_L_law (by decide +kernel)
theorem dL_law_1586 : decode cL_law 1586 = .ok (.iload 4, 2) := dz_e1 dz_21 hI_L_law (by decide +kernel)
theorem dL_law_1588 : decode cL_law 1588 = .ok (.iconst 1, 1) := dz_e0 dz_4 hI_L_law (by decide +kernel)
theorem dL_law_1589 : decode cL_law 1589 = .ok (.iadd, 1) := dz_e0 dz_96 hI_L_law (by decide +kernel)
theorem dL_law_1590 : decode cL_law 1590 = .ok (.iaload, 1) := dz_e0 dz_46 hI_L_law (by decide +kernel)
theorem dL_law_1591 : decode cL_law 1591 = .ok (.aload_n 0, 1) := dz_e0 dz_42 hI_L_law (by decide +kernel)
theorem dL_law_1592 : decode cL_law 1592 = .ok (.iload 4, 2) := dz_e1 dz_21 hI_L_law (by decide +kernel)
theorem dL_law_1594 : decode cL_law 1594 = .ok (.iconst 2, 1) := dz_e0 dz_5 hI_L_law (by decide +kernel)
theorem dL_law_1595 : decode cL_law 1595 = .ok (.iadd, 1) := dz_e0 dz_96 hI_L_law (by decide +kernel)
theorem dL_law_1596 : decode cL_law 1596 = .ok (.iaload, 1) := dz_e0 dz_46 hI_L_law (by decide +kernel)
theorem dL_law_1597 : decode cL_law 1597 = .ok (.invokevirtual 228, 3) := dz_e2 dz_182 hI_L_law (by decide +kernel)
theorem dL_law_1600 : decode cL_law 1600 = .ok (.istore 6, 2) := dz_e1 dz_54 hI_L_law (by decide +kernel)
theorem dL_law_1602 : decode cL_law 1602 = .ok (.goto 278, 3) := dz_f2 dz_167 hI_L_law (by decide +kernel)
set_option maxHeartbeats 4000000 in
set_option maxRecDepth 100000 in
theorem lc_25 : Lc 1565 := by
  intro κ p l e s m args below meth c A ret b L o i xs a a2 r2 r q q2 f f2 n v cells slots Q H locs ls hst hX hx9 hbl hbA hi hL hok hm hr hB hl hc hs kk
  have hx := hX.1.1
  have hb := hX.1.2.1
  refine lv_aload_n hx hb dL_law_1565 rfl (lv_at hl 1 rfl) ?_
  obtain ⟨z1, e1⟩ : ∃ z, xs (6 * i + 1) = z := ⟨_, rfl⟩
  refine lv_scr (k := 1) hX hB hx9 hbl hbA hi hL hl dL_law_1566 dL_law_1567 dL_law_1569 dL_law_1570 dL_law_1571 (by decide) (by decide) e1 ?_
  obtain ⟨z2, e2⟩ : ∃ z, xs (6 * i + 2) = z := ⟨_, rfl⟩
  refine lv_scr (k := 2) hX hB hx9 hbl hbA hi hL hl dL_law_1572 dL_law_1573 dL_law_1575 dL_law_1576 dL_law_1577 (by decide) (by decide) e2 ?_
  refine lv_aload_n hx hb dL_law_1578 rfl (lv_at hl 3 rfl) ?_
  replace hB := Lw_1 hB
  obtain ⟨Y, hY⟩ : ∃ Y, D_X5_change r q f z1 z2 = Y := ⟨_, rfl⟩
  refine call_SW (n := 4) (As := [.ref (a 0), .int z1, .int z2, .ref o]) (rest := []) hX hB (CMW_frame (mw κ a2 r2 f2 q2 (tb a2) []) (w_change κ l hst a r q f o n v z1 z2 hok Y hY)) ⟨by decide, by decide, by decide +kernel⟩ wm_5_76 wm_5_77 wm_1_0 wm_5_78 ⟨Nat.le_of_ble_eq_true rfl, Nat.le_of_ble_eq_true rfl⟩ ⟨by show _ ≤ 600128; omega, by show _ ≤ 7301098; omega⟩ rfl hl.1 rfl (Nat.le_of_ble_eq_true rfl) dL_law_1579 (fun o9 w' H locs hp hB => ?_)
  obtain ⟨_, ⟨x1, n1, v1, rfl, ho, hq, hW, rfl⟩, rfl⟩ := hp
  refine W.eq (g2 := F0 m 1582 ls [.int x1]) rfl ?_
  refine lv_istore (lv' := [(5, .int x1), (0, .ref b), (1, .ref (a 0)), (2, .ref (a2 0)), (3, .ref o), (4, .int (nI (6 * i)))]) hx hb dL_law_1582 hl (by decide) rfl (fun ls hl => ?_)
  have hl0 := hl
  replace hl : lv_has ls 7 (Lv b (a 0) (a2 0) o i) := lv_sub hl [1, 2, 3, 4, 5] rfl
  refine lv_aload_n hx hb dL_law_1584 rfl (lv_at hl 2 rfl) ?_
  refine lv_scr (k := 1) hX hB hx9 hbl hbA hi hL hl dL_law_1585 dL_law_1586 dL_law_1588 dL_law_1589 dL_law_1590 (by decide) (by decide) e1 ?_
  refine lv_scr (k := 2) hX hB hx9 hbl hbA hi hL hl dL_law_1591 dL_law_1592 dL_law_1594 dL_law_1595 dL_law_1596 (by decide) (by decide) e2 ?_
  replace hB := Lw_2 hB
  obtain ⟨Z, hZ⟩ : ∃ Z, D_X10_change r2 f2 q2 z1 z2 = Z := ⟨_, rfl⟩
  refine call_V (n := 2) (k0 := 0) (As := [.int z1, .int z2]) (rest := []) hX hB (k_X10_change κ l (cw κ a Y.2.2.1 Y.2.2.2.1 Y.2.2.2.2 ++ [Ot o n1 v1]) a2 r2 f2 q2 z1 z2 hm _ _ (hZ.trans (te2 Z))) ⟨rfl, by decide, by decide, by decide +kernel⟩ wm_7_129 wm_7_130 wm_7_131 wm_1_6 wm_7_132 ⟨Nat.le_of_ble_eq_true rfl, Nat.le_of_ble_eq_true rfl⟩ ⟨by show _ ≤ 600128; omega, by show _ ≤ 7301098; omega⟩ mw0 rfl rfl rfl hl.1 rfl (Nat.le_of_ble_eq_true rfl) dL_law_1597 (fun o9 w' H locs hp hB => ?_)
  obtain ⟨rfl, hfq, rfl⟩ := hp
  have hK : RA r2 f2 q2 Y := by rw [← hY]; exact kp_change hr
  refine W.eq (g2 := F0 m 1600 ls [.int Z.1]) rfl ?_
  refine lv_istore (lv' := [(6, .int Z.1), (5, .int x1), (0, .ref b), (1, .ref (a 0)), (2, .ref (a2 0)), (3, .ref o), (4, .int (nI (6 * i)))]) hx hb dL_law_1600 hl0 (by decide) rfl (fun ls hl => ?_)
  have hl0 := hl
  replace hl : lv_has ls 7 (Lv b (a 0) (a2 0) o i) := lv_sub hl [2, 3, 4, 5, 6] rfl
  refine lv_goto (tgt := 1880) hx hb dL_law_1602 (by decide) ?_
  replace hB := Lw_3 hB
  refine W.widen (k := cells + 100) (n := slots + 70000) (by omega) (by omega) ?_
  exact kk _ _ _ _ _ _ _ _ _ _ _ _ (ho hok) hm (Rl_q hK hfq) rfl hB hl
theorem dL_law_1605 : decode cL_law 1605 = .ok (.aload_n 1, 1) := dz_e0 dz_43 hI_L_law (by decide +kernel)
theorem dL_law_1606 : decode cL_law 1606 = .ok (.aload_n 0, 1) := dz_e0 dz_42 hI_L_law (by decide +kernel)
theorem dL_law_1607 : decode cL_law 1607 = .ok (.iload 4, 2) := dz_e1 dz_21 hI_L_law (by decide +kernel)
theorem dL_law_1609 : decode cL_law 1609 = .ok (.iconst 1, 1) := dz_e0 dz_4 hI_L_law (by decide +kernel)
theorem dL_law_1610 : decode cL_law 1610 = .ok (.iadd, 1) := dz_e0 dz_96 hI_L_law (by decide +kernel)
theorem dL_law_1611 : decode cL_law 1611 = .ok (.iaload, 1) := dz_e0 dz_46 hI_L_law (by decide +kernel)
theorem dL_law_1612 : decode cL_law 1612 = .ok (.aload_n 0, 1) := dz_e0 dz_42 hI_L_law (by decide +kernel)
theorem dL_law_1613 : decode cL_law 1613 = .ok (.iload 4, 2) := dz_e1 dz_21 hI_L_law (by decide +kernel)
theorem dL_law_1615 : decode cL_law 1615 = .ok (.iconst 2, 1) := dz_e0 dz_5 hI_L_law (by decide +kernel)
theorem dL_law_1616 : decode cL_law 1616 = .ok (.iadd, 1) := dz_e0 dz_96 hI_L_law (by decide +kernel)
theorem dL_law_1617 : decode cL_law 1617 = .ok (.iaload, 1) := dz_e0 dz_46 hI_L_law (by decide +kernel)
theorem dL_law_1618 : decode cL_law 1618 = .ok (.aload_n 0, 1) := dz_e0 dz_42 hI_L_law (by decide +kernel)
theorem dL_law_1619 : decode cL_law 1619 = .ok (.iload 4, 2) := dz_e1 dz_21 hI_L_law (by decide +kernel)
theorem dL_law_1621 : decode cL_law 1621 = .ok (.iconst 3, 1) := dz_e0 dz_6 hI_L_law (by decide +kernel)
theorem dL_law_1622 : decode cL_law 1622 = .ok (.iadd, 1) := dz_e0 dz_96 hI_L_law (by decide +kernel)
theorem dL_law_1623 : decode cL_law 1623 = .ok (.iaload, 1) := dz_e0 dz_46 hI_L_law (by decide +kernel)
theorem dL_law_1624 : decode cL_law 1624 = .ok (.aload_n 0, 1) := dz_e0 dz_42 hI_L_law (by decide +kernel)
theorem dL_law_1625 : decode cL_law 1625 = .ok (.iload 4, 2) := dz_e1 dz_21 hI_L_law (by decide +kernel)
theorem dL_law_1627 : decode cL_law 1627 = .ok (.iconst 4, 1) := dz_e0 dz_7 hI_L_law (by decide +kernel)
theorem dL_law_1628 : decode cL_law 1628 = .ok (.iadd, 1) := dz_e0 dz_96 hI_L_law (by decide +kernel)
theorem dL_law_1629 : decode cL_law 1629 = .ok (.iaload, 1) := dz_e0 dz_46 hI_L_law (by decide +kernel)
theorem dL_law_1630 : decode cL_law 1630 = .ok (.aload_n 3, 1) := dz_e0 dz_45 hI_L_law (by decide +kernel)
theorem dL_law_1631 : decode cL_law 1631 = .ok (.invokestatic 229, 3) := dz_e2 dz_184 hI_L_law (by decide +kernel)
theorem dL_law_1634 : decode cL_law 1634 = .ok (.istore 5, 2) := dz_e1 dz_54 hI_L_law (by decide +kernel)
theorem dL_law_1636 : decode cL_law 1636 = .ok (.aload_n 2, 1) := dz_e0 dz_44 hI_L_law (by decide +kernel)
theorem dL_law_1637 : decode cL_law 1637 = .ok (.aload_n 0, 1) := dz_e0 dz_42 hI_L_law (by decide +kernel)
theorem dL_law_1638 : decode cL_law 1638 = .ok (.iload 4, 2) := dz_e1 dz_21 hI_L_law (by decide +kernel)
theorem dL_law_1640 : decode cL_law 1640 = .ok (.iconst 1, 1) := dz_e0 dz_4 hI_L_law (by decide +kernel)
theorem dL_law_1641 : decode cL_law 1641 = .ok (.iadd, 1) := dz_e0 dz_96 hI_L_law (by decide +kernel)
theorem dL_law_1642 : decode cL_law 1642 = .ok (.iaload, 1) := dz_e0 dz_46 hI_L_law (by decide +kernel)
theorem dL_law_1643 : decode cL_law 1643 = .ok (.aload_n 0, 1) := dz_e0 dz_42 hI_L_law (by decide +kernel)
theorem dL_law_1644 : decode cL_law 1644 = .ok (.iload 4, 2) := dz_e1 dz_21 hI_L_law (by decide +kernel)
theorem dL_law_1646 : decode cL_law 1646 = .ok (.iconst 2, 1) := dz_e0 dz_5 hI_L_law (by decide +kernel)
theorem dL_law_1647 : decode cL_law 1647 = .ok (.iadd, 1) := dz_e0 dz_96 hI_L_law (by decide +kernel)
theorem dL_law_1648 : decode cL_law 1648 = .ok (.iaload, 1) := dz_e0 dz_46 hI_L_law (by decide +kernel)
theorem dL_law_1649 : decode cL_law 1649 = .ok (.aload_n 0, 1) := dz_e0 dz_42 hI_L_law (by decide +kernel)
theorem dL_law_1650 : decode cL_law 1650 = .ok (.iload 4, 2) := dz_e1 dz_21 hI_L_law (by decide +kernel)
theorem dL_law_1652 : decode cL_law 1652 = .ok (.iconst 3, 1) := dz_e0 dz_6 hI_L_law (by decide +kernel)
theorem dL_law_1653 : decode cL_law 1653 = .ok (.iadd, 1) := dz_e0 dz_96 hI_L_law (by decide +kernel)
theorem dL_law_1654 : decode cL_law 1654 = .ok (.iaload, 1) := dz_e0 dz_46 hI_L_law (by decide +kernel)
theorem dL_law_1655 : decode cL_law 1655 = .ok (.aload_n 0, 1) := dz_e0 dz_42 hI_L_law (by decide +kernel)
theorem dL_law_1656 : decode cL_law 1656 = .ok (.iload 4, 2) := dz_e1 dz_21 hI_L_law (by decide +kernel)
theorem dL_law_1658 : decode cL_law 1658 = .ok (.iconst 4, 1) := dz_e0 dz_7 hI_L_law (by decide +kernel)
theorem dL_law_1659 : decode cL_law 1659 = .ok (.iadd, 1) := dz_e0 dz_96 hI_L_law (by decide +kernel)
theorem dL_law_1660 : decode cL_law 1660 = .ok (.iaload, 1) := dz_e0 dz_46 hI_L_law (by decide +kernel)
theorem dL_law_1661 : decode cL_law 1661 = .ok (.invokevirtual 231, 3) := dz_e2 dz_182 hI_L_law (by decide +kernel)
theorem dL_law_1664 : decode cL_law 1664 = .ok (.istore 6, 2) := dz_e1 dz_54 hI_L_law (by decide +kernel)
theorem dL_law_1666 : decode cL_law 1666 = .ok (.goto 214, 3) := dz_f2 dz_167 hI_L_law (by decide +kernel)
set_option maxHeartbeats 4000000 in
set_option maxRecDepth 100000 in
theorem lc_26 : Lc 1605 := by
  intro κ p l e s m args below meth c A ret b L o i xs a a2 r2 r q q2 f f2 n v cells slots Q H locs ls hst hX hx9 hbl hbA hi hL hok hm hr hB hl hc hs kk
  have hx := hX.1.1
  have hb := hX.1.2.1
  refine lv_aload_n hx hb dL_law_1605 rfl (lv_at hl 1 rfl) ?_
  obtain ⟨z1, e1⟩ : ∃ z, xs (6 * i + 1) = z := ⟨_, rfl⟩
  refine lv_scr (k := 1) hX hB hx9 hbl hbA hi hL hl dL_law_1606 dL_law_1607 dL_law_1609 dL_law_1610 dL_law_1611 (by decide) (by decide) e1 ?_
  obtain ⟨z2, e2⟩ : ∃ z, xs (6 * i + 2) = z := ⟨_, rfl⟩
  refine lv_scr (k := 2) hX hB hx9 hbl hbA hi hL hl dL_law_1612 dL_law_1613 dL_law_1615 dL_law_1616 dL_law_1617 (by decide) (by decide) e2 ?_
  obtain ⟨z3, e3⟩ : ∃ z, xs (6 * i + 3) = z := ⟨_, rfl⟩
  refine lv_scr (k := 3) hX hB hx9 hbl hbA hi hL hl dL_law_1618 dL_law_1619 dL_law_1621 dL_law_1622 dL_law_1623 (by decide) (by decide) e3 ?_
  obtain ⟨z4, e4⟩ : ∃ z, xs (6 * i + 4) = z := ⟨_, rfl⟩
  refine lv_scr (k := 4) hX hB hx9 hbl hbA hi hL hl dL_law_1624 dL_law_1625 dL_law_1627 dL_law_1628 dL_law_1629 (by decide) (by decide) e4 ?_
  refine lv_aload_n hx hb dL_law_1630 rfl (lv_at hl 3 rfl) ?_
  replace hB := Lw_1 hB
  obtain ⟨Y, hY⟩ : ∃ Y, D_X5_isSolvable r q f z1 z2 z3 z4 = Y := ⟨_, rfl⟩
  refine call_SW (n := 6) (As := [.ref (a 0), .int z1, .int z2, .int z3, .int z4, .ref o]) (rest := []) hX hB (CMW_frame (mw κ a2 r2 f2 q2 (tb a2) []) (w_isSolvable κ l hst a r q f o n v z1 z2 z3 z4 hok Y hY)) ⟨by decide, by decide, by decide +kernel⟩ wm_5_83 wm_5_84 wm_1_0 wm_5_85 ⟨Nat.le_of_ble_eq_true rfl, Nat.le_of_ble_eq_true rfl⟩ ⟨by show _ ≤ 600128; omega, by show _ ≤ 7301098; omega⟩ rfl hl.1 rfl (Nat.le_of_ble_eq_true rfl) dL_law_1631 (fun o9 w' H locs hp hB => ?_)
  obtain ⟨_, ⟨x1, n1, v1, rfl, ho, hq, hW, rfl⟩, rfl⟩ := hp
  refine W.eq (g2 := F0 m 1634 ls [.int x1]) rfl ?_
  refine lv_istore (lv' := [(5, .int x1), (0, .ref b), (1, .ref (a 0)), (2, .ref (a2 0)), (3, .ref o), (4, .int (nI (6 * i)))]) hx hb dL_law_1634 hl (by decide) rfl (fun ls hl => ?_)
  have hl0 := hl
  replace hl : lv_has ls 7 (Lv b (a 0) (a2 0) o i) := lv_sub hl [1, 2, 3, 4, 5] rfl
  refine lv_aload_n hx hb dL_law_1636 rfl (lv_at hl 2 rfl) ?_
  refine lv_scr (k := 1) hX hB hx9 hbl hbA hi hL hl dL_law_1637 dL_law_1638 dL_law_1640 dL_law_1641 dL_law_1642 (by decide) (by decide) e1 ?_
  refine lv_scr (k := 2) hX hB hx9 hbl hbA hi hL hl dL_law_1643 dL_law_1644 dL_law_1646 dL_law_1647 dL_law_1648 (by decide) (by decide) e2 ?_
  refine lv_scr (k := 3) hX hB hx9 hbl hbA hi hL hl dL_law_1649 dL_law_1650 dL_law_1652 dL_law_1653 dL_law_1654 (by decide) (by decide) e3 ?_
  refine lv_scr (k := 4) hX hB hx9 hbl hbA hi hL hl dL_law_1655 dL_law_1656 dL_law_1658 dL_law_1659 dL_law_1660 (by decide) (by decide) e4 ?_
  replace hB := Lw_2 hB
  obtain ⟨Z, hZ⟩ : ∃ Z, D_X10_isSolvable r2 f2 q2 z1 z2 z3 z4 = Z := ⟨_, rfl⟩
  refine call_V (n := 4) (k0 := 0) (As := [.int z1, .int z2, .int z3, .int z4]) (rest := []) hX hB (k_X10_isSolvable κ l (cw κ a Y.2.2.1 Y.2.2.2.1 Y.2.2.2.2 ++ [Ot o n1 v1]) a2 r2 f2 q2 z1 z2 z3 z4 hm _ _ (hZ.trans (te2 Z))) ⟨rfl, by decide, by decide, by decide +kernel⟩ wm_7_133 wm_7_134 wm_7_135 wm_1_6 wm_7_136 ⟨Nat.le_of_ble_eq_true rfl, Nat.le_of_ble_eq_true rfl⟩ ⟨by show _ ≤ 600128; omega, by show _ ≤ 7301098; omega⟩ mw0 rfl rfl rfl hl.1 rfl (Nat.le_of_ble_eq_true rfl) dL_law_1661 (fun o9 w' H locs hp hB => ?_)
  obtain ⟨rfl, hf0, hfq, rfl⟩ := hp
  have hK : RA r2 f2 q2 Y := by rw [← hY]; exact kp_isSolvable hr
  refine W.eq (g2 := F0 m 1664 ls [.int Z.1]) rfl ?_
  refine lv_istore (lv' := [(6, .int Z.1), (5, .int x1), (0, .ref b), (1, .ref (a 0)), (2, .ref (a2 0)), (3, .ref o), (4, .int (nI (6 * i)))]) hx hb dL_law_1664 hl0 (by decide) rfl (fun ls hl => ?_)
  have hl0 := hl
  replace hl : lv_has ls 7 (Lv b (a 0) (a2 0) o i) := lv_sub hl [2, 3, 4, 5, 6] rfl
  refine lv_goto (tgt := 1880) hx hb dL_law_1666 (by decide) ?_
  replace hB := Lw_3 hB
  refine W.widen (k := cells + 100) (n := slots + 70000) (by omega) (by omega) ?_
  exact kk _ _ _ _ _ _ _ _ _ _ _ _ (ho hok) hm (Rl_q hK hfq) rfl hB hl
theorem dL_law_1669 : decode cL_law 1669 = .ok (.aload_n 1, 1) := dz_e0 dz_43 hI_L_law (by decide +kernel)
theorem dL_law_1670 : decode cL_law 1670 = .ok (.aload_n 0, 1) := dz_e0 dz_42 hI_L_law (by decide +kernel)
theorem dL_law_1671 : decode cL_law 1671 = .ok (.iload 4, 2) := dz_e1 dz_21 hI_L_law (by decide +kernel)
theorem dL_law_1673 : decode cL_law 1673 = .ok (.iconst 1, 1) := dz_e0 dz_4 hI_L_law (by decide +kernel)
theorem dL_law_1674 : decode cL_law 1674 = .ok (.iadd, 1) := dz_e0 dz_96 hI_L_law (by decide +kernel)
theorem dL_law_1675 : decode cL_law 1675 = .ok (.iaload, 1) := dz_e0 dz_46 hI_L_law (by decide +kernel)
theorem dL_law_1676 : decode cL_law 1676 = .ok (.aload_n 0, 1) := dz_e0 dz_42 hI_L_law (by decide +kernel)
theorem dL_law_1677 : decode cL_law 1677 = .ok (.iload 4, 2) := dz_e1 dz_21 hI_L_law (by decide +kernel)
theorem dL_law_1679 : decode cL_law 1679 = .ok (.iconst 2, 1) := dz_e0 dz_5 hI_L_law (by decide +kernel)
theorem dL_law_1680 : decode cL_law 1680 = .ok (.iadd, 1) := dz_e0 dz_96 hI_L_law (by decide +kernel)
theorem dL_law_1681 : decode cL_law 1681 = .ok (.iaload, 1) := dz_e0 dz_46 hI_L_law (by decide +kernel)
theorem dL_law_1682 : decode cL_law 1682 = .ok (.aload_n 0, 1) := dz_e0 dz_42 hI_L_law (by decide +kernel)
theorem dL_law_1683 : decode cL_law 1683 = .ok (.iload 4, 2) := dz_e1 dz_21 hI_L_law (by decide +kernel)
theorem dL_law_1685 : decode cL_law 1685 = .ok (.iconst 3, 1) := dz_e0 dz_6 hI_L_law (by decide +kernel)
theorem dL_law_1686 : decode cL_law 1686 = .ok (.iadd, 1) := dz_e0 dz_96 hI_L_law (by decide +kernel)
theorem dL_law_1687 : decode cL_law 1687 = .ok (.iaload, 1) := dz_e0 dz_46 hI_L_law (by decide +kernel)
theorem dL_law_1688 : decode cL_law 1688 = .ok (.aload_n 3, 1) := dz_e0 dz_45 hI_L_law (by decide +kernel)
theorem dL_law_1689 : decode cL_law 1689 = .ok (.invokestatic 232, 3) := dz_e2 dz_184 hI_L_law (by decide +kernel)
theorem dL_law_1692 : decode cL_law 1692 = .ok (.istore 5, 2) := dz_e1 dz_54 hI_L_law (by decide +kernel)
theorem dL_law_1694 : decode cL_law 1694 = .ok (.aload_n 2, 1) := dz_e0 dz_44 hI_L_law (by decide +kernel)
theorem dL_law_1695 : decode cL_law 1695 = .ok (.aload_n 0, 1) := dz_e0 dz_42 hI_L_law (by decide +kernel)
theorem dL_law_1696 : decode cL_law 1696 = .ok (.iload 4, 2) := dz_e1 dz_21 hI_L_law (by decide +kernel)
theorem dL_law_1698 : decode cL_law 1698 = .ok (.iconst 1, 1) := dz_e0 dz_4 hI_L_law (by decide +kernel)
theorem dL_law_1699 : decode cL_law 1699 = .ok (.iadd, 1) := dz_e0 dz_96 hI_L_law (by decide +kernel)
theorem dL_law_1700 : decode cL_law 1700 = .ok (.iaload, 1) := dz_e0 dz_46 hI_L_law (by decide +kernel)
theorem dL_law_1701 : decode cL_law 1701 = .ok (.aload_n 0, 1) := dz_e0 dz_42 hI_L_law (by decide +kernel)
theorem dL_law_1702 : decode cL_law 1702 = .ok (.iload 4, 2) := dz_e1 dz_21 hI_L_law (by decide +kernel)
theorem dL_law_1704 : decode cL_law 1704 = .ok (.iconst 2, 1) := dz_e0 dz_5 hI_L_law (by decide +kernel)
theorem dL_law_1705 : decode cL_law 1705 = .ok (.iadd, 1) := dz_e0 dz_96 hI_L_law (by decide +kernel)
theorem dL_law_1706 : decode cL_law 1706 = .ok (.iaload, 1) := dz_e0 dz_46 hI_L_law (by decide +kernel)
theorem dL_law_1707 : decode cL_law 1707 = .ok (.aload_n 0, 1) := dz_e0 dz_42 hI_L_law (by decide +kernel)
theorem dL_law_1708 : decode cL_law 1708 = .ok (.iload 4, 2) := dz_e1 dz_21 hI_L_law (by decide +kernel)
theorem dL_law_1710 : decode cL_law 1710 = .ok (.iconst 3, 1) := dz_e0 dz_6 hI_L_law (by decide +kernel)
theorem dL_law_1711 : decode cL_law 1711 = .ok (.iadd, 1) := dz_e0 dz_96 hI_L_law (by decide +kernel)
theorem dL_law_1712 : decode cL_law 1712 = .ok (.iaload, 1) := dz_e0 dz_46 hI_L_law (by decide +kernel)
theorem dL_law_1713 : decode cL_law 1713 = .ok (.invokevirtual 234, 3) := dz_e2 dz_182 hI_L_law (by decide +kernel)
theorem dL_law_1716 : decode cL_law 1716 = .ok (.istore 6, 2) := dz_e1 dz_54 hI_L_law (by decide +kernel)
theorem dL_law_1718 : decode cL_law 1718 = .ok (.goto 162, 3) := dz_f2 dz_167 hI_L_law (by decide +kernel)
set_option maxHeartbeats 4000000 in
set_option maxRecDepth 100000 in
theorem lc_27 : Lc 1669 := by
  intro κ p l e s m args below meth c A ret b L o i xs a a2 r2 r q q2 f f2 n v cells slots Q H locs ls hst hX hx9 hbl hbA hi hL hok hm hr hB hl hc hs kk
  have hx := hX.1.1
  have hb := hX.1.2.1
  refine lv_aload_n hx hb dL_law_1669 rfl (lv_at hl 1 rfl) ?_
  obtain ⟨z1, e1⟩ : ∃ z, xs (6 * i + 1) = z := ⟨_, rfl⟩
  refine lv_scr (k := 1) hX hB hx9 hbl hbA hi hL hl dL_law_1670 dL_law_1671 dL_law_1673 dL_law_1674 dL_law_1675 (by decide) (by decide) e1 ?_
  obtain ⟨z2, e2⟩ : ∃ z, xs (6 * i + 2) = z := ⟨_, rfl⟩
  refine lv_scr (k := 2) hX hB hx9 hbl hbA hi hL hl dL_law_1676 dL_law_1677 dL_law_1679 dL_law_1680 dL_law_1681 (by decide) (by decide) e2 ?_
  obtain ⟨z3, e3⟩ : ∃ z, xs (6 * i + 3) = z := ⟨_, rfl⟩
  refine lv_scr (k := 3) hX hB hx9 hbl hbA hi hL hl dL_law_1682 dL_law_1683 dL_law_1685 dL_law_1686 dL_law_1687 (by decide) (by decide) e3 ?_
  refine lv_aload_n hx hb dL_law_1688 rfl (lv_at hl 3 rfl) ?_
  replace hB := Lw_1 hB
  obtain ⟨Y, hY⟩ : ∃ Y, D_X5_restColumn r q f z1 z2 z3 = Y := ⟨_, rfl⟩
  refine call_SW (n := 5) (As := [.ref (a 0), .int z1, .int z2, .int z3, .ref o]) (rest := []) hX hB (CMW_frame (mw κ a2 r2 f2 q2 (tb a2) []) (w_restColumn κ l hst a r q f o n v z1 z2 z3 hok Y hY)) ⟨by decide, by decide, by decide +kernel⟩ wm_5_90 wm_5_91 wm_1_0 wm_5_92 ⟨Nat.le_of_ble_eq_true rfl, Nat.le_of_ble_eq_true rfl⟩ ⟨by show _ ≤ 600128; omega, by show _ ≤ 7301098; omega⟩ rfl hl.1 rfl (Nat.le_of_ble_eq_true rfl) dL_law_1689 (fun o9 w' H locs hp hB => ?_)
  obtain ⟨_, ⟨x1, n1, v1, rfl, ho, hq, hW, rfl⟩, rfl⟩ := hp
  refine W.eq (g2 := F0 m 1692 ls [.int x1]) rfl ?_
  refine lv_istore (lv' := [(5, .int x1), (0, .ref b), (1, .ref (a 0)), (2, .ref (a2 0)), (3, .ref o), (4, .int (nI (6 * i)))]) hx hb dL_law_1692 hl (by decide) rfl (fun ls hl => ?_)
  have hl0 := hl
  replace hl : lv_has ls 7 (Lv b (a 0) (a2 0) o i) := lv_sub hl [1, 2, 3, 4, 5] rfl
  refine lv_aload_n hx hb dL_law_1694 rfl (lv_at hl 2 rfl) ?_
  refine lv_scr (k := 1) hX hB hx9 hbl hbA hi hL hl dL_law_1695 dL_law_1696 dL_law_1698 dL_law_1699 dL_law_1700 (by decide) (by decide) e1 ?_
  refine lv_scr (k := 2) hX hB hx9 hbl hbA hi hL hl dL_law_1701 dL_law_1702 dL_law_1704 dL_law_1705 dL_law_1706 (by decide) (by decide) e2 ?_
  refine lv_scr (k := 3) hX hB hx9 hbl hbA hi hL hl dL_law_1707 dL_law_1708 dL_law_1710 dL_law_1711 dL_law_1712 (by decide) (by decide) e3 ?_
  replace hB := Lw_2 hB
  obtain ⟨Z, hZ⟩ : ∃ Z, D_X10_restColumn r2 f2 q2 z1 z2 z3 = Z := ⟨_, rfl⟩
  refine call_V (n := 3) (k0 := 0) (As := [.int z1, .int z2, .int z3]) (rest := []) hX hB (k_X10_restColumn κ l (cw κ a Y.2.2.1 Y.2.2.2.1 Y.2.2.2.2 ++ [Ot o n1 v1]) a2 r2 f2 q2 z1 z2 z3 hm _ _ (hZ.trans (te2 Z))) ⟨rfl, by decide, by decide, by decide +kernel⟩ wm_7_140 wm_7_141 wm_7_142 wm_1_6 wm_7_143 ⟨Nat.le_of_ble_eq_true rfl, Nat.le_of_ble_eq_true rfl⟩ ⟨by show _ ≤ 600128; omega, by show _ ≤ 7301098; omega⟩ mw0 rfl rfl rfl hl.1 rfl (Nat.le_of_ble_eq_true rfl) dL_law_1713 (fun o9 w' H locs hp hB => ?_)
  obtain ⟨rfl, hfq, rfl⟩ := hp
  have hK : RA r2 f2 q2 Y := by rw [← hY]; exact kp_restColumn hr
  refine W.eq (g2 := F0 m 1716 ls [.int Z.1]) rfl ?_
  refine lv_istore (lv' := [(6, .int Z.1), (5, .int x1), (0, .ref b), (1, .ref (a 0)), (2, .ref (a2 0)), (3, .ref o), (4, .int (nI (6 * i)))]) hx hb dL_law_1716 hl0 (by decide) rfl (fun ls hl => ?_)
  have hl0 := hl
  replace hl : lv_has ls 7 (Lv b (a 0) (a2 0) o i) := lv_sub hl [2, 3, 4, 5, 6] rfl
  refine lv_goto (tgt := 1880) hx hb dL_law_1718 (by decide) ?_
  replace hB := Lw_3 hB
  refine W.widen (k := cells + 100) (n := slots + 70000) (by omega) (by omega) ?_
  exact kk _ _ _ _ _ _ _ _ _ _ _ _ (ho hok) hm (Rl_q hK hfq) rfl hB hl
theorem dL_law_1721 : decode cL_law 1721 = .ok (.aload_n 1, 1) := dz_e0 dz_43 hI_L_law (by decide +kernel)
theorem dL_law_1722 : decode cL_law 1722 = .ok (.aload_n 0, 1) := dz_e0 dz_42 hI_L_law (by decide +kernel)
theorem dL_law_1723 : decode cL_law 1723 = .ok (.iload 4, 2) := dz_e1 dz_21 hI_L_law (by decide +kernel)
theorem dL_law_1725 : decode cL_law 1725 = .ok (.iconst 1, 1) := dz_e0 dz_4 hI_L_law (by decide +kernel)
theorem dL_law_1726 : decode cL_law 1726 = .ok (.iadd, 1) := dz_e0 dz_96 hI_L_law (by decide +kernel)
theorem dL_law_1727 : decode cL_law 1727 = .ok (.iaload, 1) := dz_e0 dz_46 hI_L_law (by decide +kernel)
theorem dL_law_1728 : decode cL_law 1728 = .ok (.aload_n 0, 1) := dz_e0 dz_42 hI_L_law (by decide +kernel)
theorem dL_law_1729 : decode cL_law 1729 = .ok (.iload 4, 2) := dz_e1 dz_21 hI_L_law (by decide +kernel)
theorem dL_law_1731 : decode cL_law 1731 = .ok (.iconst 2, 1) := dz_e0 dz_5 hI_L_law (by decide +kernel)
theorem dL_law_1732 : decode cL_law 1732 = .ok (.iadd, 1) := dz_e0 dz_96 hI_L_law (by decide +kernel)
theorem dL_law_1733 : decode cL_law 1733 = .ok (.iaload, 1) := dz_e0 dz_46 hI_L_law (by decide +kernel)
theorem dL_law_1734 : decode cL_law 1734 = .ok (.aload_n 3, 1) := dz_e0 dz_45 hI_L_law (by decide +kernel)
theorem dL_law_1735 : decode cL_law 1735 = .ok (.invokestatic 235, 3) := dz_e2 dz_184 hI_L_law (by decide +kernel)
theorem dL_law_1738 : decode cL_law 1738 = .ok (.istore 5, 2) := dz_e1 dz_54 hI_L_law (by decide +kernel)
theorem dL_law_1740 : decode cL_law 1740 = .ok (.aload_n 2, 1) := dz_e0 dz_44 hI_L_law (by decide +kernel)
theorem dL_law_1741 : decode cL_law 1741 = .ok (.aload_n 0, 1) := dz_e0 dz_42 hI_L_law (by decide +kernel)
theorem dL_law_1742 : decode cL_law 1742 = .ok (.iload 4, 2) := dz_e1 dz_21 hI_L_law (by decide +kernel)
theorem dL_law_1744 : decode cL_law 1744 = .ok (.iconst 1, 1) := dz_e0 dz_4 hI_L_law (by decide +kernel)
theorem dL_law_1745 : decode cL_law 1745 = .ok (.iadd, 1) := dz_e0 dz_96 hI_L_law (by decide +kernel)
theorem dL_law_1746 : decode cL_law 1746 = .ok (.iaload, 1) := dz_e0 dz_46 hI_L_law (by decide +kernel)
theorem dL_law_1747 : decode cL_law 1747 = .ok (.aload_n 0, 1) := dz_e0 dz_42 hI_L_law (by decide +kernel)
theorem dL_law_1748 : decode cL_law 1748 = .ok (.iload 4, 2) := dz_e1 dz_21 hI_L_law (by decide +kernel)
theorem dL_law_1750 : decode cL_law 1750 = .ok (.iconst 2, 1) := dz_e0 dz_5 hI_L_law (by decide +kernel)
theorem dL_law_1751 : decode cL_law 1751 = .ok (.iadd, 1) := dz_e0 dz_96 hI_L_law (by decide +kernel)
theorem dL_law_1752 : decode cL_law 1752 = .ok (.iaload, 1) := dz_e0 dz_46 hI_L_law (by decide +kernel)
theorem dL_law_1753 : decode cL_law 1753 = .ok (.invokevirtual 237, 3) := dz_e2 dz_182 hI_L_law (by decide +kernel)
theorem dL_law_1756 : decode cL_law 1756 = .ok (.astore 6, 2) := dz_e1 dz_58 hI_L_law (by decide +kernel)
theorem dL_law_1758 : decode cL_law 1758 = .ok (.goto 122, 3) := dz_f2 dz_167 hI_L_law (by decide +kernel)
set_option maxHeartbeats 4000000 in
set_option maxRecDepth 100000 in
theorem lc_28 : Lc 1721 := by
  intro κ p l e s m args below meth c A ret b L o i xs a a2 r2 r q q2 f f2 n v cells slots Q H locs ls hst hX hx9 hbl hbA hi hL hok hm hr hB hl hc hs kk
  have hx := hX.1.1
  have hb := hX.1.2.1
  refine lv_aload_n hx hb dL_law_1721 rfl (lv_at hl 1 rfl) ?_
  obtain ⟨z1, e1⟩ : ∃ z, xs (6 * i + 1) = z := ⟨_, rfl⟩
  refine lv_scr (k := 1) hX hB hx9 hbl hbA hi hL hl dL_law_1722 dL_law_1723 dL_law_1725 dL_law_1726 dL_law_1727 (by decide) (by decide) e1 ?_
  obtain ⟨z2, e2⟩ : ∃ z, xs (6 * i + 2) = z := ⟨_, rfl⟩
  refine lv_scr (k := 2) hX hB hx9 hbl hbA hi hL hl dL_law_1728 dL_law_1729 dL_law_1731 dL_law_1732 dL_law_1733 (by decide) (by decide) e2 ?_
  refine lv_aload_n hx hb dL_law_1734 rfl (lv_at hl 3 rfl) ?_
  replace hB := Lw_1 hB
  refine call_SW (n := 4) (As := [.ref (a 0), .int z1, .int z2, .ref o]) (rest := []) hX hB (CMW_frame (mw κ a2 r2 f2 q2 (tb a2) []) (w_rest κ l hst a r q f o n v z1 z2 hok)) ⟨by decide, by decide, by decide +kernel⟩ wm_5_98 wm_5_99 wm_1_0 wm_5_100 ⟨Nat.le_of_ble_eq_true rfl, Nat.le_of_ble_eq_true rfl⟩ ⟨by show _ ≤ 600128; omega, by show _ ≤ 7301098; omega⟩ rfl hl.1 rfl (Nat.le_of_ble_eq_true rfl) dL_law_1735 (fun o9 w' H locs hp hB => ?_)
  obtain ⟨_, ⟨x1, r1, q1, f1, n1, v1, rfl, ho, hq, hk, rfl⟩, rfl⟩ := hp
  refine W.eq (g2 := F0 m 1738 ls [.int x1]) rfl ?_
  refine lv_istore (lv' := [(5, .int x1), (0, .ref b), (1, .ref (a 0)), (2, .ref (a2 0)), (3, .ref o), (4, .int (nI (6 * i)))]) hx hb dL_law_1738 hl (by decide) rfl (fun ls hl => ?_)
  have hl0 := hl
  replace hl : lv_has ls 7 (Lv b (a 0) (a2 0) o i) := lv_sub hl [1, 2, 3, 4, 5] rfl
  refine lv_aload_n hx hb dL_law_1740 rfl (lv_at hl 2 rfl) ?_
  refine lv_scr (k := 1) hX hB hx9 hbl hbA hi hL hl dL_law_1741 dL_law_1742 dL_law_1744 dL_law_1745 dL_law_1746 (by decide) (by decide) e1 ?_
  refine lv_scr (k := 2) hX hB hx9 hbl hbA hi hL hl dL_law_1747 dL_law_1748 dL_law_1750 dL_law_1751 dL_law_1752 (by decide) (by decide) e2 ?_
  replace hB := Lw_2 hB
  refine call_V (n := 2) (k0 := 0) (As := [.int z1, .int z2]) (rest := []) hX hB (k_X10_rest κ l (cw κ a r1 q1 f1 ++ [Ot o n1 v1]) a2 r2 f2 q2 z1 z2 hm) ⟨rfl, by decide, by decide, by decide +kernel⟩ wm_7_144 wm_7_145 wm_7_146 wm_1_6 wm_7_147 ⟨Nat.le_of_ble_eq_true rfl, Nat.le_of_ble_eq_true rfl⟩ ⟨by show _ ≤ 600128; omega, by show _ ≤ 7301098; omega⟩ mw0 rfl rfl rfl hl.1 rfl (Nat.le_of_ble_eq_true rfl) dL_law_1753 (fun o9 w' H locs hp hB => ?_)
  obtain ⟨x2, q3, rfl, hfq, rfl⟩ := hp
  refine W.eq (g2 := F0 m 1756 ls [.ref x2]) rfl ?_
  refine lv_astore (lv' := [(6, .ref x2), (5, .int x1), (0, .ref b), (1, .ref (a 0)), (2, .ref (a2 0)), (3, .ref o), (4, .int (nI (6 * i)))]) hx hb dL_law_1756 hl0 (by decide) rfl (fun ls hl => ?_)
  have hl0 := hl
  replace hl : lv_has ls 7 (Lv b (a 0) (a2 0) o i) := lv_sub hl [2, 3, 4, 5, 6] rfl
  refine lv_goto (tgt := 1880) hx hb dL_law_1758 (by decide) ?_
  replace hB := Lw_3 hB
  refine W.widen (k := cells + 100) (n := slots + 70000) (by omega) (by omega) ?_
  exact kk _ _ _ _ _ _ _ _ _ _ _ _ (ho hok) hm (Rl_q (hk _ _ _ hr) hfq) rfl hB hl
theorem dL_law_1761 : decode cL_law 1761 = .ok (.aload_n 1, 1) := dz_e0 dz_43 hI_L_law (by decide +kernel)
theorem dL_law_1762 : decode cL_law 1762 = .ok (.aload_n 0, 1) := dz_e0 dz_42 hI_L_law (by decide +kernel)
theorem dL_law_1763 : decode cL_law 1763 = .ok (.iload 4, 2) := dz_e1 dz_21 hI_L_law (by decide +kernel)
theorem dL_law_1765 : decode cL_law 1765 = .ok (.iconst 1, 1) := dz_e0 dz_4 hI_L_law (by decide +kernel)
theorem dL_law_1766 : decode cL_law 1766 = .ok (.iadd, 1) := dz_e0 dz_96 hI_L_law (by decide +kernel)
theorem dL_law_1767 : decode cL_law 1767 = .ok (.iaload, 1) := dz_e0 dz_46 hI_L_law (by decide +kernel)
theorem dL_law_1768 : decode cL_law 1768 = .ok (.aload_n 0, 1) := dz_e0 dz_42 hI_L_law (by decide +kernel)
theorem dL_law_1769 : decode cL_law 1769 = .ok (.iload 4, 2) := dz_e1 dz_21 hI_L_law (by decide +kernel)
theorem dL_law_1771 : decode cL_law 1771 = .ok (.iconst 2, 1) := dz_e0 dz_5 hI_L_law (by decide +kernel)
theorem dL_law_1772 : decode cL_law 1772 = .ok (.iadd, 1) := dz_e0 dz_96 hI_L_law (by decide +kernel)
theorem dL_law_1773 : decode cL_law 1773 = .ok (.iaload, 1) := dz_e0 dz_46 hI_L_law (by decide +kernel)
theorem dL_law_1774 : decode cL_law 1774 = .ok (.aload_n 0, 1) := dz_e0 dz_42 hI_L_law (by decide +kernel)
theorem dL_law_1775 : decode cL_law 1775 = .ok (.iload 4, 2) := dz_e1 dz_21 hI_L_law (by decide +kernel)
theorem dL_law_1777 : decode cL_law 1777 = .ok (.iconst 3, 1) := dz_e0 dz_6 hI_L_law (by decide +kernel)
theorem dL_law_1778 : decode cL_law 1778 = .ok (.iadd, 1) := dz_e0 dz_96 hI_L_law (by decide +kernel)
theorem dL_law_1779 : decode cL_law 1779 = .ok (.iaload, 1) := dz_e0 dz_46 hI_L_law (by decide +kernel)
theorem dL_law_1780 : decode cL_law 1780 = .ok (.aload_n 3, 1) := dz_e0 dz_45 hI_L_law (by decide +kernel)
theorem dL_law_1781 : decode cL_law 1781 = .ok (.invokestatic 238, 3) := dz_e2 dz_184 hI_L_law (by decide +kernel)
theorem dL_law_1784 : decode cL_law 1784 = .ok (.istore 5, 2) := dz_e1 dz_54 hI_L_law (by decide +kernel)
theorem dL_law_1786 : decode cL_law 1786 = .ok (.aload_n 2, 1) := dz_e0 dz_44 hI_L_law (by decide +kernel)
theorem dL_law_1787 : decode cL_law 1787 = .ok (.aload_n 0, 1) := dz_e0 dz_42 hI_L_law (by decide +kernel)
theorem dL_law_1788 : decode cL_law 1788 = .ok (.iload 4, 2) := dz_e1 dz_21 hI_L_law (by decide +kernel)
theorem dL_law_1790 : decode cL_law 1790 = .ok (.iconst 1, 1) := dz_e0 dz_4 hI_L_law (by decide +kernel)
theorem dL_law_1791 : decode cL_law 1791 = .ok (.iadd, 1) := dz_e0 dz_96 hI_L_law (by decide +kernel)
theorem dL_law_1792 : decode cL_law 1792 = .ok (.iaload, 1) := dz_e0 dz_46 hI_L_law (by decide +kernel)
theorem dL_law_1793 : decode cL_law 1793 = .ok (.aload_n 0, 1) := dz_e0 dz_42 hI_L_law (by decide +kernel)
theorem dL_law_1794 : decode cL_law 1794 = .ok (.iload 4, 2) := dz_e1 dz_21 hI_L_law (by decide +kernel)
theorem dL_law_1796 : decode cL_law 1796 = .ok (.iconst 2, 1) := dz_e0 dz_5 hI_L_law (by decide +kernel)
theorem dL_law_1797 : decode cL_law 1797 = .ok (.iadd, 1) := dz_e0 dz_96 hI_L_law (by decide +kernel)
theorem dL_law_1798 : decode cL_law 1798 = .ok (.iaload, 1) := dz_e0 dz_46 hI_L_law (by decide +kernel)
theorem dL_law_1799 : decode cL_law 1799 = .ok (.aload_n 0, 1) := dz_e0 dz_42 hI_L_law (by decide +kernel)
theorem dL_law_1800 : decode cL_law 1800 = .ok (.iload 4, 2) := dz_e1 dz_21 hI_L_law (by decide +kernel)
theorem dL_law_1802 : decode cL_law 1802 = .ok (.iconst 3, 1) := dz_e0 dz_6 hI_L_law (by decide +kernel)
theorem dL_law_1803 : decode cL_law 1803 = .ok (.iadd, 1) := dz_e0 dz_96 hI_L_law (by decide +kernel)
theorem dL_law_1804 : decode cL_law 1804 = .ok (.iaload, 1) := dz_e0 dz_46 hI_L_law (by decide +kernel)
theorem dL_law_1805 : decode cL_law 1805 = .ok (.invokevirtual 240, 3) := dz_e2 dz_182 hI_L_law (by decide +kernel)
theorem dL_law_1808 : decode cL_law 1808 = .ok (.istore 6, 2) := dz_e1 dz_54 hI_L_law (by decide +kernel)
theorem dL_law_1810 : decode cL_law 1810 = .ok (.goto 70, 3) := dz_f2 dz_167 hI_L_law (by decide +kernel)
set_option maxHeartbeats 4000000 in
set_option maxRecDepth 100000 in
theorem lc_29 : Lc 1761 := by
  intro κ p l e s m args below meth c A ret b L o i xs a a2 r2 r q q2 f f2 n v cells slots Q H locs ls hst hX hx9 hbl hbA hi hL hok hm hr hB hl hc hs kk
  have hx := hX.1.1
  have hb := hX.1.2.1
  refine lv_aload_n hx hb dL_law_1761 rfl (lv_at hl 1 rfl) ?_
  obtain ⟨z1, e1⟩ : ∃ z, xs (6 * i + 1) = z := ⟨_, rfl⟩
  refine lv_scr (k := 1) hX hB hx9 hbl hbA hi hL hl dL_law_1762 dL_law_1763 dL_law_1765 dL_law_1766 dL_law_1767 (by decide) (by decide) e1 ?_
  obtain ⟨z2, e2⟩ : ∃ z, xs (6 * i + 2) = z := ⟨_, rfl⟩
  refine lv_scr (k := 2) hX hB hx9 hbl hbA hi hL hl dL_law_1768 dL_law_1769 dL_law_1771 dL_law_1772 dL_law_1773 (by decide) (by decide) e2 ?_
  obtain ⟨z3, e3⟩ : ∃ z, xs (6 * i + 3) = z := ⟨_, rfl⟩
  refine lv_scr (k := 3) hX hB hx9 hbl hbA hi hL hl dL_law_1774 dL_law_1775 dL_law_1777 dL_law_1778 dL_law_1779 (by decide) (by decide) e3 ?_
  refine lv_aload_n hx hb dL_law_1780 rfl (lv_at hl 3 rfl) ?_
  replace hB := Lw_1 hB
  obtain ⟨Y, hY⟩ : ∃ Y, D_X5_restOf r q f z1 z2 z3 = Y := ⟨_, rfl⟩
  refine call_SW (n := 5) (As := [.ref (a 0), .int z1, .int z2, .int z3, .ref o]) (rest := []) hX hB (CMW_frame (mw κ a2 r2 f2 q2 (tb a2) []) (w_restOf κ l hst a r q f o n v z1 z2 z3 hok Y hY)) ⟨by decide, by decide, by decide +kernel⟩ wm_5_118 wm_5_119 wm_1_0 wm_5_120 ⟨Nat.le_of_ble_eq_true rfl, Nat.le_of_ble_eq_true rfl⟩ ⟨by show _ ≤ 600128; omega, by show _ ≤ 7301098; omega⟩ rfl hl.1 rfl (Nat.le_of_ble_eq_true rfl) dL_law_1781 (fun o9 w' H locs hp hB => ?_)
  obtain ⟨_, ⟨x1, n1, v1, rfl, ho, hq, hW, rfl⟩, rfl⟩ := hp
  refine W.eq (g2 := F0 m 1784 ls [.int x1]) rfl ?_
  refine lv_istore (lv' := [(5, .int x1), (0, .ref b), (1, .ref (a 0)), (2, .ref (a2 0)), (3, .ref o), (4, .int (nI (6 * i)))]) hx hb dL_law_1784 hl (by decide) rfl (fun ls hl => ?_)
  have hl0 := hl
  replace hl : lv_has ls 7 (Lv b (a 0) (a2 0) o i) := lv_sub hl [1, 2, 3, 4, 5] rfl
  refine lv_aload_n hx hb dL_law_1786 rfl (lv_at hl 2 rfl) ?_
  refine lv_scr (k := 1) hX hB hx9 hbl hbA hi hL hl dL_law_1787 dL_law_1788 dL_law_1790 dL_law_1791 dL_law_1792 (by decide) (by decide) e1 ?_
  refine lv_scr (k := 2) hX hB hx9 hbl hbA hi hL hl dL_law_1793 dL_law_1794 dL_law_1796 dL_law_1797 dL_law_1798 (by decide) (by decide) e2 ?_
  refine lv_scr (k := 3) hX hB hx9 hbl hbA hi hL hl dL_law_1799 dL_law_1800 dL_law_1802 dL_law_1803 dL_law_1804 (by decide) (by decide) e3 ?_
  replace hB := Lw_2 hB
  obtain ⟨Z, hZ⟩ : ∃ Z, D_X10_restOf r2 f2 q2 z1 z2 z3 = Z := ⟨_, rfl⟩
  refine call_V (n := 3) (k0 := 0) (As := [.int z1, .int z2, .int z3]) (rest := []) hX hB (k_X10_restOf κ l (cw κ a Y.2.2.1 Y.2.2.2.1 Y.2.2.2.2 ++ [Ot o n1 v1]) a2 r2 f2 q2 z1 z2 z3 hm _ _ (hZ.trans (te2 Z))) ⟨rfl, by decide, by decide, by decide +kernel⟩ wm_7_153 wm_7_154 wm_7_155 wm_1_6 wm_7_156 ⟨Nat.le_of_ble_eq_true rfl, Nat.le_of_ble_eq_true rfl⟩ ⟨by show _ ≤ 600128; omega, by show _ ≤ 7301098; omega⟩ mw0 rfl rfl rfl hl.1 rfl (Nat.le_of_ble_eq_true rfl) dL_law_1805 (fun o9 w' H locs hp hB => ?_)
  obtain ⟨rfl, hfq, rfl⟩ := hp
  have hK : RA r2 f2 q2 Y := by rw [← hY]; exact kp_restOf hr
  refine W.eq (g2 := F0 m 1808 ls [.int Z.1]) rfl ?_
  refine lv_istore (lv' := [(6, .int Z.1), (5, .int x1), (0, .ref b), (1, .ref (a 0)), (2, .ref (a2 0)), (3, .ref o), (4, .int (nI (6 * i)))]) hx hb dL_law_1808 hl0 (by decide) rfl (fun ls hl => ?_)
  have hl0 := hl
  replace hl : lv_has ls 7 (Lv b (a 0) (a2 0) o i) := lv_sub hl [2, 3, 4, 5, 6] rfl
  refine lv_goto (tgt := 1880) hx hb dL_law_1810 (by decide) ?_
  replace hB := Lw_3 hB
  refine W.widen (k := cells + 100) (n := slots + 70000) (by omega) (by omega) ?_
  exact kk _ _ _ _ _ _ _ _ _ _ _ _ (ho hok) hm (Rl_q hK hfq) rfl hB hl
