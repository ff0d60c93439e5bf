theorem dL_law_513 : decode cL_law 513 = .ok (.aload_n 1, 1) := dz_e0 dz_43 hI_L_law (by decide +kernel)
theorem dL_law_514 : decode cL_law 514 = .ok (.aload_n 0, 1) := dz_e0 dz_42 hI_L_law (by decide +kernel)
theorem dL_law_515 : decode cL_law 515 = .ok (.iload 4, 2) := dz_e1 dz_21 hI_L_law (by decide +kernel)
theorem dL_law_517 : decode cL_law 517 = .ok (.iconst 1, 1) := dz_e0 dz_4 hI_L_law (by decide +kernel)
theorem dL_law_518 : decode cL_law 518 = .ok (.iadd, 1) := dz_e0 dz_96 hI_L_law (by decide +kernel)
theorem dL_law_519 : decode cL_law 519 = .ok (.iaload, 1) := dz_e0 dz_46 hI_L_law (by decide +kernel)
theorem dL_law_520 : decode cL_law 520 = .ok (.aload_n 3, 1) := dz_e0 dz_45 hI_L_law (by decide +kernel)
theorem dL_law_521 : decode cL_law 521 = .ok (.invokestatic 163, 3) := dz_e2 dz_184 hI_L_law (by decide +kernel)
theorem dL_law_524 : decode cL_law 524 = .ok (.istore 5, 2) := dz_e1 dz_54 hI_L_law (by decide +kernel)
theorem dL_law_526 : decode cL_law 526 = .ok (.aload_n 2, 1) := dz_e0 dz_44 hI_L_law (by decide +kernel)
theorem dL_law_527 : decode cL_law 527 = .ok (.aload_n 0, 1) := dz_e0 dz_42 hI_L_law (by decide +kernel)
theorem dL_law_528 : decode cL_law 528 = .ok (.iload 4, 2) := dz_e1 dz_21 hI_L_law (by decide +kernel)
theorem dL_law_530 : decode cL_law 530 = .ok (.iconst 1, 1) := dz_e0 dz_4 hI_L_law (by decide +kernel)
theorem dL_law_531 : decode cL_law 531 = .ok (.iadd, 1) := dz_e0 dz_96 hI_L_law (by decide +kernel)
theorem dL_law_532 : decode cL_law 532 = .ok (.iaload, 1) := dz_e0 dz_46 hI_L_law (by decide +kernel)
theorem dL_law_533 : decode cL_law 533 = .ok (.invokevirtual 166, 3) := dz_e2 dz_182 hI_L_law (by decide +kernel)
theorem dL_law_536 : decode cL_law 536 = .ok (.istore 6, 2) := dz_e1 dz_54 hI_L_law (by decide +kernel)
theorem dL_law_538 : decode cL_law 538 = .ok (.goto 1342, 3) := dz_f2 dz_167 hI_L_law (by decide +kernel)
set_option maxHeartbeats 4000000 in
set_option maxRecDepth 100000 in
theorem lc_6 : Lc 513 := by
  intro κ p l e s m args below meth c A ret b L o i xs a a2 r2 r q q2 f f2 n v cells slots Q H locs ls hst hX hx9 hbl hbA hi hL hok hm hr hB hl hc hs kk
  have hx := hX.1.1
  have hb := hX.1.2.1
  refine lv_aload_n hx hb dL_law_513 rfl (lv_at hl 1 rfl) ?_
  obtain ⟨z1, e1⟩ : ∃ z, xs (6 * i + 1) = z := ⟨_, rfl⟩
  refine lv_scr (k := 1) hX hB hx9 hbl hbA hi hL hl dL_law_514 dL_law_515 dL_law_517 dL_law_518 dL_law_519 (by decide) (by decide) e1 ?_
  refine lv_aload_n hx hb dL_law_520 rfl (lv_at hl 3 rfl) ?_
  replace hB := Lw_1 hB
  obtain ⟨Y, hY⟩ : ∃ Y, D_X5_flip r q f z1 = Y := ⟨_, rfl⟩
  refine call_SW (n := 3) (As := [.ref (a 0), .int z1, .ref o]) (rest := []) hX hB (CMW_frame (mw κ a2 r2 f2 q2 (tb a2) []) (w_flip κ l hst a r q f o n v z1 hok Y hY)) ⟨by decide, by decide, by decide +kernel⟩ wm_3_82 wm_3_83 wm_1_0 wm_3_84 ⟨Nat.le_of_ble_eq_true rfl, Nat.le_of_ble_eq_true rfl⟩ ⟨by show _ ≤ 600128; omega, by show _ ≤ 7301098; omega⟩ rfl hl.1 rfl (Nat.le_of_ble_eq_true rfl) dL_law_521 (fun o9 w' H locs hp hB => ?_)
  obtain ⟨_, ⟨x1, n1, v1, rfl, ho, hq, hW, rfl⟩, rfl⟩ := hp
  refine W.eq (g2 := F0 m 524 ls [.int x1]) rfl ?_
  refine lv_istore (lv' := [(5, .int x1), (0, .ref b), (1, .ref (a 0)), (2, .ref (a2 0)), (3, .ref o), (4, .int (nI (6 * i)))]) hx hb dL_law_524 hl (by decide) rfl (fun ls hl => ?_)
  have hl0 := hl
  replace hl : lv_has ls 7 (Lv b (a 0) (a2 0) o i) := lv_sub hl [1, 2, 3, 4, 5] rfl
  refine lv_aload_n hx hb dL_law_526 rfl (lv_at hl 2 rfl) ?_
  refine lv_scr (k := 1) hX hB hx9 hbl hbA hi hL hl dL_law_527 dL_law_528 dL_law_530 dL_law_531 dL_law_532 (by decide) (by decide) e1 ?_
  replace hB := Lw_2 hB
  obtain ⟨Z, hZ⟩ : ∃ Z, D_X10_flip r2 f2 q2 z1 = Z := ⟨_, rfl⟩
  refine call_V (n := 1) (k0 := 0) (As := [.int z1]) (rest := []) hX hB (k_X10_flip κ l (cw κ a Y.2.2.1 Y.2.2.2.1 Y.2.2.2.2 ++ [Ot o n1 v1]) a2 r2 f2 q2 z1 hm _ _ _ _ (hZ.trans (te4 Z))) ⟨rfl, by decide, by decide, by decide +kernel⟩ wm_6_31 wm_6_32 wm_6_33 wm_1_6 wm_6_34 ⟨Nat.le_of_ble_eq_true rfl, Nat.le_of_ble_eq_true rfl⟩ ⟨by show _ ≤ 600128; omega, by show _ ≤ 7301098; omega⟩ mw0 rfl rfl rfl hl.1 rfl (Nat.le_of_ble_eq_true rfl) dL_law_533 (fun o9 w' H locs hp hB => ?_)
  obtain ⟨a3, rfl, hf0, hf1, hf2, rfl⟩ := hp
  have hO : Ok Y Z := by rw [← hY, ← hZ]; exact flip_eq hr
  refine W.eq (g2 := F0 m 536 ls [.int Z.1]) rfl ?_
  refine lv_istore (lv' := [(6, .int Z.1), (5, .int x1), (0, .ref b), (1, .ref (a 0)), (2, .ref (a2 0)), (3, .ref o), (4, .int (nI (6 * i)))]) hx hb dL_law_536 hl0 (by decide) rfl (fun ls hl => ?_)
  have hl0 := hl
  replace hl : lv_has ls 7 (Lv b (a 0) (a2 0) o i) := lv_sub hl [2, 3, 4, 5, 6] rfl
  refine lv_goto (tgt := 1880) hx hb dL_law_538 (by decide) ?_
  replace hB := Lw_3 hB
  refine W.widen (k := cells + 100) (n := slots + 70000) (by omega) (by omega) ?_
  exact kk _ _ _ _ _ _ _ _ _ _ _ _ (ho hok) hf1 hO.1 hf0 hB hl
theorem dL_law_541 : decode cL_law 541 = .ok (.aload_n 1, 1) := dz_e0 dz_43 hI_L_law (by decide +kernel)
theorem dL_law_542 : decode cL_law 542 = .ok (.aload_n 0, 1) := dz_e0 dz_42 hI_L_law (by decide +kernel)
theorem dL_law_543 : decode cL_law 543 = .ok (.iload 4, 2) := dz_e1 dz_21 hI_L_law (by decide +kernel)
theorem dL_law_545 : decode cL_law 545 = .ok (.iconst 1, 1) := dz_e0 dz_4 hI_L_law (by decide +kernel)
theorem dL_law_546 : decode cL_law 546 = .ok (.iadd, 1) := dz_e0 dz_96 hI_L_law (by decide +kernel)
theorem dL_law_547 : decode cL_law 547 = .ok (.iaload, 1) := dz_e0 dz_46 hI_L_law (by decide +kernel)
theorem dL_law_548 : decode cL_law 548 = .ok (.aload_n 0, 1) := dz_e0 dz_42 hI_L_law (by decide +kernel)
theorem dL_law_549 : decode cL_law 549 = .ok (.iload 4, 2) := dz_e1 dz_21 hI_L_law (by decide +kernel)
theorem dL_law_551 : decode cL_law 551 = .ok (.iconst 2, 1) := dz_e0 dz_5 hI_L_law (by decide +kernel)
theorem dL_law_552 : decode cL_law 552 = .ok (.iadd, 1) := dz_e0 dz_96 hI_L_law (by decide +kernel)
theorem dL_law_553 : decode cL_law 553 = .ok (.iaload, 1) := dz_e0 dz_46 hI_L_law (by decide +kernel)
theorem dL_law_554 : decode cL_law 554 = .ok (.ifCond .eq 7, 3) := dz_f2 dz_153 hI_L_law (by decide +kernel)
theorem dL_law_557 : decode cL_law 557 = .ok (.iconst 1, 1) := dz_e0 dz_4 hI_L_law (by decide +kernel)
theorem dL_law_558 : decode cL_law 558 = .ok (.goto 4, 3) := dz_f2 dz_167 hI_L_law (by decide +kernel)
theorem dL_law_561 : decode cL_law 561 = .ok (.iconst 0, 1) := dz_e0 dz_3 hI_L_law (by decide +kernel)
theorem dL_law_562 : decode cL_law 562 = .ok (.aload_n 0, 1) := dz_e0 dz_42 hI_L_law (by decide +kernel)
theorem dL_law_563 : decode cL_law 563 = .ok (.iload 4, 2) := dz_e1 dz_21 hI_L_law (by decide +kernel)
theorem dL_law_565 : decode cL_law 565 = .ok (.iconst 3, 1) := dz_e0 dz_6 hI_L_law (by decide +kernel)
theorem dL_law_566 : decode cL_law 566 = .ok (.iadd, 1) := dz_e0 dz_96 hI_L_law (by decide +kernel)
theorem dL_law_567 : decode cL_law 567 = .ok (.iaload, 1) := dz_e0 dz_46 hI_L_law (by decide +kernel)
theorem dL_law_568 : decode cL_law 568 = .ok (.aload_n 0, 1) := dz_e0 dz_42 hI_L_law (by decide +kernel)
theorem dL_law_569 : decode cL_law 569 = .ok (.iload 4, 2) := dz_e1 dz_21 hI_L_law (by decide +kernel)
theorem dL_law_571 : decode cL_law 571 = .ok (.iconst 4, 1) := dz_e0 dz_7 hI_L_law (by decide +kernel)
theorem dL_law_572 : decode cL_law 572 = .ok (.iadd, 1) := dz_e0 dz_96 hI_L_law (by decide +kernel)
theorem dL_law_573 : decode cL_law 573 = .ok (.iaload, 1) := dz_e0 dz_46 hI_L_law (by decide +kernel)
theorem dL_law_574 : decode cL_law 574 = .ok (.aload_n 3, 1) := dz_e0 dz_45 hI_L_law (by decide +kernel)
theorem dL_law_575 : decode cL_law 575 = .ok (.invokestatic 167, 3) := dz_e2 dz_184 hI_L_law (by decide +kernel)
theorem dL_law_578 : decode cL_law 578 = .ok (.istore 5, 2) := dz_e1 dz_54 hI_L_law (by decide +kernel)
theorem dL_law_580 : decode cL_law 580 = .ok (.aload_n 2, 1) := dz_e0 dz_44 hI_L_law (by decide +kernel)
theorem dL_law_581 : decode cL_law 581 = .ok (.aload_n 0, 1) := dz_e0 dz_42 hI_L_law (by decide +kernel)
theorem dL_law_582 : decode cL_law 582 = .ok (.iload 4, 2) := dz_e1 dz_21 hI_L_law (by decide +kernel)
theorem dL_law_584 : decode cL_law 584 = .ok (.iconst 1, 1) := dz_e0 dz_4 hI_L_law (by decide +kernel)
theorem dL_law_585 : decode cL_law 585 = .ok (.iadd, 1) := dz_e0 dz_96 hI_L_law (by decide +kernel)
theorem dL_law_586 : decode cL_law 586 = .ok (.iaload, 1) := dz_e0 dz_46 hI_L_law (by decide +kernel)
theorem dL_law_587 : decode cL_law 587 = .ok (.aload_n 0, 1) := dz_e0 dz_42 hI_L_law (by decide +kernel)
theorem dL_law_588 : decode cL_law 588 = .ok (.iload 4, 2) := dz_e1 dz_21 hI_L_law (by decide +kernel)
theorem dL_law_590 : decode cL_law 590 = .ok (.iconst 2, 1) := dz_e0 dz_5 hI_L_law (by decide +kernel)
theorem dL_law_591 : decode cL_law 591 = .ok (.iadd, 1) := dz_e0 dz_96 hI_L_law (by decide +kernel)
theorem dL_law_592 : decode cL_law 592 = .ok (.iaload, 1) := dz_e0 dz_46 hI_L_law (by decide +kernel)
theorem dL_law_593 : decode cL_law 593 = .ok (.ifCond .eq 7, 3) := dz_f2 dz_153 hI_L_law (by decide +kernel)
theorem dL_law_596 : decode cL_law 596 = .ok (.iconst 1, 1) := dz_e0 dz_4 hI_L_law (by decide +kernel)
theorem dL_law_597 : decode cL_law 597 = .ok (.goto 4, 3) := dz_f2 dz_167 hI_L_law (by decide +kernel)
theorem dL_law_600 : decode cL_law 600 = .ok (.iconst 0, 1) := dz_e0 dz_3 hI_L_law (by decide +kernel)
theorem dL_law_601 : decode cL_law 601 = .ok (.aload_n 0, 1) := dz_e0 dz_42 hI_L_law (by decide +kernel)
theorem dL_law_602 : decode cL_law 602 = .ok (.iload 4, 2) := dz_e1 dz_21 hI_L_law (by decide +kernel)
theorem dL_law_604 : decode cL_law 604 = .ok (.iconst 3, 1) := dz_e0 dz_6 hI_L_law (by decide +kernel)
theorem dL_law_605 : decode cL_law 605 = .ok (.iadd, 1) := dz_e0 dz_96 hI_L_law (by decide +kernel)
theorem dL_law_606 : decode cL_law 606 = .ok (.iaload, 1) := dz_e0 dz_46 hI_L_law (by decide +kernel)
theorem dL_law_607 : decode cL_law 607 = .ok (.aload_n 0, 1) := dz_e0 dz_42 hI_L_law (by decide +kernel)
theorem dL_law_608 : decode cL_law 608 = .ok (.iload 4, 2) := dz_e1 dz_21 hI_L_law (by decide +kernel)
theorem dL_law_610 : decode cL_law 610 = .ok (.iconst 4, 1) := dz_e0 dz_7 hI_L_law (by decide +kernel)
theorem dL_law_611 : decode cL_law 611 = .ok (.iadd, 1) := dz_e0 dz_96 hI_L_law (by decide +kernel)
theorem dL_law_612 : decode cL_law 612 = .ok (.iaload, 1) := dz_e0 dz_46 hI_L_law (by decide +kernel)
theorem dL_law_613 : decode cL_law 613 = .ok (.invokevirtual 170, 3) := dz_e2 dz_182 hI_L_law (by decide +kernel)
theorem dL_law_616 : decode cL_law 616 = .ok (.istore 6, 2) := dz_e1 dz_54 hI_L_law (by decide +kernel)
theorem dL_law_618 : decode cL_law 618 = .ok (.goto 1262, 3) := dz_f2 dz_167 hI_L_law (by decide +kernel)
set_option maxHeartbeats 4000000 in
set_option maxRecDepth 100000 in
theorem lc_7 : Lc 541 := by
  intro κ p l e s m args below meth c A ret b L o i xs a a2 r2 r q q2 f f2 n v cells slots Q H locs ls hst hX hx9 hbl hbA hi hL hok hm hr hB hl hc hs kk
  have hx := hX.1.1
  have hb := hX.1.2.1
  refine lv_aload_n hx hb dL_law_541 rfl (lv_at hl 1 rfl) ?_
  obtain ⟨z1, e1⟩ : ∃ z, xs (6 * i + 1) = z := ⟨_, rfl⟩
  refine lv_scr (k := 1) hX hB hx9 hbl hbA hi hL hl dL_law_542 dL_law_543 dL_law_545 dL_law_546 dL_law_547 (by decide) (by decide) e1 ?_
  obtain ⟨z2, e2⟩ : ∃ z, xs (6 * i + 2) = z := ⟨_, rfl⟩
  refine lv_scr (k := 2) hX hB hx9 hbl hbA hi hL hl dL_law_548 dL_law_549 dL_law_551 dL_law_552 dL_law_553 (by decide) (by decide) e2 ?_
  obtain ⟨y2, dy2⟩ : ∃ z, bz z2 = z := ⟨_, rfl⟩
  refine lv_bool hX dL_law_554 dL_law_557 dL_law_558 dL_law_561 dy2 ?_
  obtain ⟨z3, e3⟩ : ∃ z, xs (6 * i + 3) = z := ⟨_, rfl⟩
  refine lv_scr (k := 3) hX hB hx9 hbl hbA hi hL hl dL_law_562 dL_law_563 dL_law_565 dL_law_566 dL_law_567 (by decide) (by decide) e3 ?_
  obtain ⟨z4, e4⟩ : ∃ z, xs (6 * i + 4) = z := ⟨_, rfl⟩
  refine lv_scr (k := 4) hX hB hx9 hbl hbA hi hL hl dL_law_568 dL_law_569 dL_law_571 dL_law_572 dL_law_573 (by decide) (by decide) e4 ?_
  refine lv_aload_n hx hb dL_law_574 rfl (lv_at hl 3 rfl) ?_
  replace hB := Lw_1 hB
  obtain ⟨Y, hY⟩ : ∃ Y, D_X5_exchange r q f z1 y2 z3 z4 = Y := ⟨_, rfl⟩
  refine call_SW (n := 6) (As := [.ref (a 0), .int z1, .int y2, .int z3, .int z4, .ref o]) (rest := []) hX hB (CMW_frame (mw κ a2 r2 f2 q2 (tb a2) []) (w_exchange κ l hst a r q f o n v z1 y2 z3 z4 hok Y hY)) ⟨by decide, by decide, by decide +kernel⟩ wm_3_89 wm_3_90 wm_1_0 wm_3_91 ⟨Nat.le_of_ble_eq_true rfl, Nat.le_of_ble_eq_true rfl⟩ ⟨by show _ ≤ 600128; omega, by show _ ≤ 7301098; omega⟩ rfl hl.1 rfl (Nat.le_of_ble_eq_true rfl) dL_law_575 (fun o9 w' H locs hp hB => ?_)
  obtain ⟨_, ⟨x1, n1, v1, rfl, ho, hq, hW, rfl⟩, rfl⟩ := hp
  refine W.eq (g2 := F0 m 578 ls [.int x1]) rfl ?_
  refine lv_istore (lv' := [(5, .int x1), (0, .ref b), (1, .ref (a 0)), (2, .ref (a2 0)), (3, .ref o), (4, .int (nI (6 * i)))]) hx hb dL_law_578 hl (by decide) rfl (fun ls hl => ?_)
  have hl0 := hl
  replace hl : lv_has ls 7 (Lv b (a 0) (a2 0) o i) := lv_sub hl [1, 2, 3, 4, 5] rfl
  refine lv_aload_n hx hb dL_law_580 rfl (lv_at hl 2 rfl) ?_
  refine lv_scr (k := 1) hX hB hx9 hbl hbA hi hL hl dL_law_581 dL_law_582 dL_law_584 dL_law_585 dL_law_586 (by decide) (by decide) e1 ?_
  refine lv_scr (k := 2) hX hB hx9 hbl hbA hi hL hl dL_law_587 dL_law_588 dL_law_590 dL_law_591 dL_law_592 (by decide) (by decide) e2 ?_
  refine lv_bool hX dL_law_593 dL_law_596 dL_law_597 dL_law_600 dy2 ?_
  refine lv_scr (k := 3) hX hB hx9 hbl hbA hi hL hl dL_law_601 dL_law_602 dL_law_604 dL_law_605 dL_law_606 (by decide) (by decide) e3 ?_
  refine lv_scr (k := 4) hX hB hx9 hbl hbA hi hL hl dL_law_607 dL_law_608 dL_law_610 dL_law_611 dL_law_612 (by decide) (by decide) e4 ?_
  replace hB := Lw_2 hB
  obtain ⟨Z, hZ⟩ : ∃ Z, D_X10_exchange r2 f2 q2 z1 y2 z3 z4 = Z := ⟨_, rfl⟩
  refine call_V (n := 4) (k0 := 0) (As := [.int z1, .int y2, .int z3, .int z4]) (rest := []) hX hB (k_X10_exchange κ l (cw κ a Y.2.2.1 Y.2.2.2.1 Y.2.2.2.2 ++ [Ot o n1 v1]) a2 r2 f2 q2 z1 y2 z3 z4 hm _ _ _ _ (hZ.trans (te4 Z))) ⟨rfl, by decide, by decide, by decide +kernel⟩ wm_6_38 wm_6_39 wm_6_40 wm_1_6 wm_6_41 ⟨Nat.le_of_ble_eq_true rfl, Nat.le_of_ble_eq_true rfl⟩ ⟨by show _ ≤ 600128; omega, by show _ ≤ 7301098; omega⟩ mw0 rfl rfl rfl hl.1 rfl (Nat.le_of_ble_eq_true rfl) dL_law_613 (fun o9 w' H locs hp hB => ?_)
  obtain ⟨a3, rfl, hf0, hf1, hf2, rfl⟩ := hp
  have hO : Ok Y Z := by rw [← hY, ← hZ]; exact exchange_eq hr
  refine W.eq (g2 := F0 m 616 ls [.int Z.1]) rfl ?_
  refine lv_istore (lv' := [(6, .int Z.1), (5, .int x1), (0, .ref b), (1, .ref (a 0)), (2, .ref (a2 0)), (3, .ref o), (4, .int (nI (6 * i)))]) hx hb dL_law_616 hl0 (by decide) rfl (fun ls hl => ?_)
  have hl0 := hl
  replace hl : lv_has ls 7 (Lv b (a 0) (a2 0) o i) := lv_sub hl [2, 3, 4, 5, 6] rfl
  refine lv_goto (tgt := 1880) hx hb dL_law_618 (by decide) ?_
  replace hB := Lw_3 hB
  refine W.widen (k := cells + 100) (n := slots + 70000) (by omega) (by omega) ?_
  exact kk _ _ _ _ _ _ _ _ _ _ _ _ (ho hok) hf1 hO.1 hf0 hB hl
theorem dL_law_621 : decode cL_law 621 = .ok (.aload_n 1, 1) := dz_e0 dz_43 hI_L_law (by decide +kernel)
theorem dL_law_622 : decode cL_law 622 = .ok (.aload_n 0, 1) := dz_e0 dz_42 hI_L_law (by decide +kernel)
theorem dL_law_623 : decode cL_law 623 = .ok (.iload 4, 2) := dz_e1 dz_21 hI_L_law (by decide +kernel)
theorem dL_law_625 : decode cL_law 625 = .ok (.iconst 1, 1) := dz_e0 dz_4 hI_L_law (by decide +kernel)
theorem dL_law_626 : decode cL_law 626 = .ok (.iadd, 1) := dz_e0 dz_96 hI_L_law (by decide +kernel)
theorem dL_law_627 : decode cL_law 627 = .ok (.iaload, 1) := dz_e0 dz_46 hI_L_law (by decide +kernel)
theorem dL_law_628 : decode cL_law 628 = .ok (.aload_n 0, 1) := dz_e0 dz_42 hI_L_law (by decide +kernel)
theorem dL_law_629 : decode cL_law 629 = .ok (.iload 4, 2) := dz_e1 dz_21 hI_L_law (by decide +kernel)
theorem dL_law_631 : decode cL_law 631 = .ok (.iconst 2, 1) := dz_e0 dz_5 hI_L_law (by decide +kernel)
theorem dL_law_632 : decode cL_law 632 = .ok (.iadd, 1) := dz_e0 dz_96 hI_L_law (by decide +kernel)
theorem dL_law_633 : decode cL_law 633 = .ok (.iaload, 1) := dz_e0 dz_46 hI_L_law (by decide +kernel)
theorem dL_law_634 : decode cL_law 634 = .ok (.ifCond .eq 7, 3) := dz_f2 dz_153 hI_L_law (by decide +kernel)
theorem dL_law_637 : decode cL_law 637 = .ok (.iconst 1, 1) := dz_e0 dz_4 hI_L_law (by decide +kernel)
theorem dL_law_638 : decode cL_law 638 = .ok (.goto 4, 3) := dz_f2 dz_167 hI_L_law (by decide +kernel)
theorem dL_law_641 : decode cL_law 641 = .ok (.iconst 0, 1) := dz_e0 dz_3 hI_L_law (by decide +kernel)
theorem dL_law_642 : decode cL_law 642 = .ok (.aload_n 0, 1) := dz_e0 dz_42 hI_L_law (by decide +kernel)
theorem dL_law_643 : decode cL_law 643 = .ok (.iload 4, 2) := dz_e1 dz_21 hI_L_law (by decide +kernel)
theorem dL_law_645 : decode cL_law 645 = .ok (.iconst 3, 1) := dz_e0 dz_6 hI_L_law (by decide +kernel)
theorem dL_law_646 : decode cL_law 646 = .ok (.iadd, 1) := dz_e0 dz_96 hI_L_law (by decide +kernel)
theorem dL_law_647 : decode cL_law 647 = .ok (.iaload, 1) := dz_e0 dz_46 hI_L_law (by decide +kernel)
theorem dL_law_648 : decode cL_law 648 = .ok (.aload_n 3, 1) := dz_e0 dz_45 hI_L_law (by decide +kernel)
theorem dL_law_649 : decode cL_law 649 = .ok (.invokestatic 171, 3) := dz_e2 dz_184 hI_L_law (by decide +kernel)
theorem dL_law_652 : decode cL_law 652 = .ok (.istore 5, 2) := dz_e1 dz_54 hI_L_law (by decide +kernel)
theorem dL_law_654 : decode cL_law 654 = .ok (.aload_n 2, 1) := dz_e0 dz_44 hI_L_law (by decide +kernel)
theorem dL_law_655 : decode cL_law 655 = .ok (.aload_n 0, 1) := dz_e0 dz_42 hI_L_law (by decide +kernel)
theorem dL_law_656 : decode cL_law 656 = .ok (.iload 4, 2) := dz_e1 dz_21 hI_L_law (by decide +kernel)
theorem dL_law_658 : decode cL_law 658 = .ok (.iconst 1, 1) := dz_e0 dz_4 hI_L_law (by decide +kernel)
theorem dL_law_659 : decode cL_law 659 = .ok (.iadd, 1) := dz_e0 dz_96 hI_L_law (by decide +kernel)
theorem dL_law_660 : decode cL_law 660 = .ok (.iaload, 1) := dz_e0 dz_46 hI_L_law (by decide +kernel)
theorem dL_law_661 : decode cL_law 661 = .ok (.aload_n 0, 1) := dz_e0 dz_42 hI_L_law (by decide +kernel)
theorem dL_law_662 : decode cL_law 662 = .ok (.iload 4, 2) := dz_e1 dz_21 hI_L_law (by decide +kernel)
theorem dL_law_664 : decode cL_law 664 = .ok (.iconst 2, 1) := dz_e0 dz_5 hI_L_law (by decide +kernel)
theorem dL_law_665 : decode cL_law 665 = .ok (.iadd, 1) := dz_e0 dz_96 hI_L_law (by decide +kernel)
theorem dL_law_666 : decode cL_law 666 = .ok (.iaload, 1) := dz_e0 dz_46 hI_L_law (by decide +kernel)
theorem dL_law_667 : decode cL_law 667 = .ok (.ifCond .eq 7, 3) := dz_f2 dz_153 hI_L_law (by decide +kernel)
theorem dL_law_670 : decode cL_law 670 = .ok (.iconst 1, 1) := dz_e0 dz_4 hI_L_law (by decide +kernel)
theorem dL_law_671 : decode cL_law 671 = .ok (.goto 4, 3) := dz_f2 dz_167 hI_L_law (by decide +kernel)
theorem dL_law_674 : decode cL_law 674 = .ok (.iconst 0, 1) := dz_e0 dz_3 hI_L_law (by decide +kernel)
theorem dL_law_675 : decode cL_law 675 = .ok (.aload_n 0, 1) := dz_e0 dz_42 hI_L_law (by decide +kernel)
theorem dL_law_676 : decode cL_law 676 = .ok (.iload 4, 2) := dz_e1 dz_21 hI_L_law (by decide +kernel)
theorem dL_law_678 : decode cL_law 678 = .ok (.iconst 3, 1) := dz_e0 dz_6 hI_L_law (by decide +kernel)
theorem dL_law_679 : decode cL_law 679 = .ok (.iadd, 1) := dz_e0 dz_96 hI_L_law (by decide +kernel)
theorem dL_law_680 : decode cL_law 680 = .ok (.iaload, 1) := dz_e0 dz_46 hI_L_law (by decide +kernel)
theorem dL_law_681 : decode cL_law 681 = .ok (.invokevirtual 174, 3) := dz_e2 dz_182 hI_L_law (by decide +kernel)
theorem dL_law_684 : decode cL_law 684 = .ok (.istore 6, 2) := dz_e1 dz_54 hI_L_law (by decide +kernel)
theorem dL_law_686 : decode cL_law 686 = .ok (.goto 1194, 3) := dz_f2 dz_167 hI_L_law (by decide +kernel)
set_option maxHeartbeats 4000000 in
set_option maxRecDepth 100000 in
theorem lc_8 : Lc 621 := by
  intro κ p l e s m args below meth c A ret b L o i xs a a2 r2 r q q2 f f2 n v cells slots Q H locs ls hst hX hx9 hbl hbA hi hL hok hm hr hB hl hc hs kk
  have hx := hX.1.1
  have hb := hX.1.2.1
  refine lv_aload_n hx hb dL_law_621 rfl (lv_at hl 1 rfl) ?_
  obtain ⟨z1, e1⟩ : ∃ z, xs (6 * i + 1) = z := ⟨_, rfl⟩
  refine lv_scr (k := 1) hX hB hx9 hbl hbA hi hL hl dL_law_622 dL_law_623 dL_law_625 dL_law_626 dL_law_627 (by decide) (by decide) e1 ?_
  obtain ⟨z2, e2⟩ : ∃ z, xs (6 * i + 2) = z := ⟨_, rfl⟩
  refine lv_scr (k := 2) hX hB hx9 hbl hbA hi hL hl dL_law_628 dL_law_629 dL_law_631 dL_law_632 dL_law_633 (by decide) (by decide) e2 ?_
  obtain ⟨y2, dy2⟩ : ∃ z, bz z2 = z := ⟨_, rfl⟩
  refine lv_bool hX dL_law_634 dL_law_637 dL_law_638 dL_law_641 dy2 ?_
  obtain ⟨z3, e3⟩ : ∃ z, xs (6 * i + 3) = z := ⟨_, rfl⟩
  refine lv_scr (k := 3) hX hB hx9 hbl hbA hi hL hl dL_law_642 dL_law_643 dL_law_645 dL_law_646 dL_law_647 (by decide) (by decide) e3 ?_
  refine lv_aload_n hx hb dL_law_648 rfl (lv_at hl 3 rfl) ?_
  replace hB := Lw_1 hB
  obtain ⟨Y, hY⟩ : ∃ Y, D_X5_turn r q f z1 y2 z3 = Y := ⟨_, rfl⟩
  refine call_SW (n := 5) (As := [.ref (a 0), .int z1, .int y2, .int z3, .ref o]) (rest := []) hX hB (CMW_frame (mw κ a2 r2 f2 q2 (tb a2) []) (w_turn κ l hst a r q f o n v z1 y2 z3 hok Y hY)) ⟨by decide, by decide, by decide +kernel⟩ wm_3_108 wm_3_109 wm_1_0 wm_3_110 ⟨Nat.le_of_ble_eq_true rfl, Nat.le_of_ble_eq_true rfl⟩ ⟨by show _ ≤ 600128; omega, by show _ ≤ 7301098; omega⟩ rfl hl.1 rfl (Nat.le_of_ble_eq_true rfl) dL_law_649 (fun o9 w' H locs hp hB => ?_)
  obtain ⟨_, ⟨x1, n1, v1, rfl, ho, hq, hW, rfl⟩, rfl⟩ := hp
  refine W.eq (g2 := F0 m 652 ls [.int x1]) rfl ?_
  refine lv_istore (lv' := [(5, .int x1), (0, .ref b), (1, .ref (a 0)), (2, .ref (a2 0)), (3, .ref o), (4, .int (nI (6 * i)))]) hx hb dL_law_652 hl (by decide) rfl (fun ls hl => ?_)
  have hl0 := hl
  replace hl : lv_has ls 7 (Lv b (a 0) (a2 0) o i) := lv_sub hl [1, 2, 3, 4, 5] rfl
  refine lv_aload_n hx hb dL_law_654 rfl (lv_at hl 2 rfl) ?_
  refine lv_scr (k := 1) hX hB hx9 hbl hbA hi hL hl dL_law_655 dL_law_656 dL_law_658 dL_law_659 dL_law_660 (by decide) (by decide) e1 ?_
  refine lv_scr (k := 2) hX hB hx9 hbl hbA hi hL hl dL_law_661 dL_law_662 dL_law_664 dL_law_665 dL_law_666 (by decide) (by decide) e2 ?_
  refine lv_bool hX dL_law_667 dL_law_670 dL_law_671 dL_law_674 dy2 ?_
  refine lv_scr (k := 3) hX hB hx9 hbl hbA hi hL hl dL_law_675 dL_law_676 dL_law_678 dL_law_679 dL_law_680 (by decide) (by decide) e3 ?_
  replace hB := Lw_2 hB
  obtain ⟨Z, hZ⟩ : ∃ Z, D_X10_turn r2 f2 q2 z1 y2 z3 = Z := ⟨_, rfl⟩
  refine call_V (n := 3) (k0 := 0) (As := [.int z1, .int y2, .int z3]) (rest := []) hX hB (k_X10_turn κ l (cw κ a Y.2.2.1 Y.2.2.2.1 Y.2.2.2.2 ++ [Ot o n1 v1]) a2 r2 f2 q2 z1 y2 z3 hm _ _ _ _ (hZ.trans (te4 Z))) ⟨rfl, by decide, by decide, by decide +kernel⟩ wm_6_63 wm_6_64 wm_6_65 wm_1_6 wm_6_66 ⟨Nat.le_of_ble_eq_true rfl, Nat.le_of_ble_eq_true rfl⟩ ⟨by show _ ≤ 600128; omega, by show _ ≤ 7301098; omega⟩ mw0 rfl rfl rfl hl.1 rfl (Nat.le_of_ble_eq_true rfl) dL_law_681 (fun o9 w' H locs hp hB => ?_)
  obtain ⟨a3, rfl, hf0, hf1, hf2, rfl⟩ := hp
  have hO : Ok Y Z := by rw [← hY, ← hZ]; exact turn_eq hr
  refine W.eq (g2 := F0 m 684 ls [.int Z.1]) rfl ?_
  refine lv_istore (lv' := [(6, .int Z.1), (5, .int x1), (0, .ref b), (1, .ref (a 0)), (2, .ref (a2 0)), (3, .ref o), (4, .int (nI (6 * i)))]) hx hb dL_law_684 hl0 (by decide) rfl (fun ls hl => ?_)
  have hl0 := hl
  replace hl : lv_has ls 7 (Lv b (a 0) (a2 0) o i) := lv_sub hl [2, 3, 4, 5, 6] rfl
  refine lv_goto (tgt := 1880) hx hb dL_law_686 (by decide) ?_
  replace hB := Lw_3 hB
  refine W.widen (k := cells + 100) (n := slots + 70000) (by omega) (by omega) ?_
  exact kk _ _ _ _ _ _ _ _ _ _ _ _ (ho hok) hf1 hO.1 hf0 hB hl
theorem dL_law_689 : decode cL_law 689 = .ok (.aload_n 1, 1) := dz_e0 dz_43 hI_L_law (by decide +kernel)
theorem dL_law_690 : decode cL_law 690 = .ok (.aload_n 0, 1) := dz_e0 dz_42 hI_L_law (by decide +kernel)
theorem dL_law_691 : decode cL_law 691 = .ok (.iload 4, 2) := dz_e1 dz_21 hI_L_law (by decide +kernel)
theorem dL_law_693 : decode cL_law 693 = .ok (.iconst 1, 1) := dz_e0 dz_4 hI_L_law (by decide +kernel)
theorem dL_law_694 : decode cL_law 694 = .ok (.iadd, 1) := dz_e0 dz_96 hI_L_law (by decide +kernel)
theorem dL_law_695 : decode cL_law 695 = .ok (.iaload, 1) := dz_e0 dz_46 hI_L_law (by decide +kernel)
theorem dL_law_696 : decode cL_law 696 = .ok (.aload_n 0, 1) := dz_e0 dz_42 hI_L_law (by decide +kernel)
theorem dL_law_697 : decode cL_law 697 = .ok (.iload 4, 2) := dz_e1 dz_21 hI_L_law (by decide +kernel)
theorem dL_law_699 : decode cL_law 699 = .ok (.iconst 2, 1) := dz_e0 dz_5 hI_L_law (by decide +kernel)
theorem dL_law_700 : decode cL_law 700 = .ok (.iadd, 1) := dz_e0 dz_96 hI_L_law (by decide +kernel)
theorem dL_law_701 : decode cL_law 701 = .ok (.iaload, 1) := dz_e0 dz_46 hI_L_law (by decide +kernel)
theorem dL_law_702 : decode cL_law 702 = .ok (.ifCond .eq 7, 3) := dz_f2 dz_153 hI_L_law (by decide +kernel)
theorem dL_law_705 : decode cL_law 705 = .ok (.iconst 1, 1) := dz_e0 dz_4 hI_L_law (by decide +kernel)
theorem dL_law_706 : decode cL_law 706 = .ok (.goto 4, 3) := dz_f2 dz_167 hI_L_law (by decide +kernel)
theorem dL_law_709 : decode cL_law 709 = .ok (.iconst 0, 1) := dz_e0 dz_3 hI_L_law (by decide +kernel)
theorem dL_law_710 : decode cL_law 710 = .ok (.aload_n 0, 1) := dz_e0 dz_42 hI_L_law (by decide +kernel)
theorem dL_law_711 : decode cL_law 711 = .ok (.iload 4, 2) := dz_e1 dz_21 hI_L_law (by decide +kernel)
theorem dL_law_713 : decode cL_law 713 = .ok (.iconst 3, 1) := dz_e0 dz_6 hI_L_law (by decide +kernel)
theorem dL_law_714 : decode cL_law 714 = .ok (.iadd, 1) := dz_e0 dz_96 hI_L_law (by decide +kernel)
theorem dL_law_715 : decode cL_law 715 = .ok (.iaload, 1) := dz_e0 dz_46 hI_L_law (by decide +kernel)
theorem dL_law_716 : decode cL_law 716 = .ok (.aload_n 0, 1) := dz_e0 dz_42 hI_L_law (by decide +kernel)
theorem dL_law_717 : decode cL_law 717 = .ok (.iload 4, 2) := dz_e1 dz_21 hI_L_law (by decide +kernel)
theorem dL_law_719 : decode cL_law 719 = .ok (.iconst 4, 1) := dz_e0 dz_7 hI_L_law (by decide +kernel)
theorem dL_law_720 : decode cL_law 720 = .ok (.iadd, 1) := dz_e0 dz_96 hI_L_law (by decide +kernel)
theorem dL_law_721 : decode cL_law 721 = .ok (.iaload, 1) := dz_e0 dz_46 hI_L_law (by decide +kernel)
theorem dL_law_722 : decode cL_law 722 = .ok (.aload_n 0, 1) := dz_e0 dz_42 hI_L_law (by decide +kernel)
theorem dL_law_723 : decode cL_law 723 = .ok (.iload 4, 2) := dz_e1 dz_21 hI_L_law (by decide +kernel)
theorem dL_law_725 : decode cL_law 725 = .ok (.iconst 5, 1) := dz_e0 dz_8 hI_L_law (by decide +kernel)
theorem dL_law_726 : decode cL_law 726 = .ok (.iadd, 1) := dz_e0 dz_96 hI_L_law (by decide +kernel)
theorem dL_law_727 : decode cL_law 727 = .ok (.iaload, 1) := dz_e0 dz_46 hI_L_law (by decide +kernel)
theorem dL_law_728 : decode cL_law 728 = .ok (.aload_n 3, 1) := dz_e0 dz_45 hI_L_law (by decide +kernel)
theorem dL_law_729 : decode cL_law 729 = .ok (.invokestatic 175, 3) := dz_e2 dz_184 hI_L_law (by decide +kernel)
theorem dL_law_732 : decode cL_law 732 = .ok (.istore 5, 2) := dz_e1 dz_54 hI_L_law (by decide +kernel)
theorem dL_law_734 : decode cL_law 734 = .ok (.aload_n 2, 1) := dz_e0 dz_44 hI_L_law (by decide +kernel)
theorem dL_law_735 : decode cL_law 735 = .ok (.aload_n 0, 1) := dz_e0 dz_42 hI_L_law (by decide +kernel)
theorem dL_law_736 : decode cL_law 736 = .ok (.iload 4, 2) := dz_e1 dz_21 hI_L_law (by decide +kernel)
theorem dL_law_738 : decode cL_law 738 = .ok (.iconst 1, 1) := dz_e0 dz_4 hI_L_law (by decide +kernel)
theorem dL_law_739 : decode cL_law 739 = .ok (.iadd, 1) := dz_e0 dz_96 hI_L_law (by decide +kernel)
theorem dL_law_740 : decode cL_law 740 = .ok (.iaload, 1) := dz_e0 dz_46 hI_L_law (by decide +kernel)
theorem dL_law_741 : decode cL_law 741 = .ok (.aload_n 0, 1) := dz_e0 dz_42 hI_L_law (by decide +kernel)
theorem dL_law_742 : decode cL_law 742 = .ok (.iload 4, 2) := dz_e1 dz_21 hI_L_law (by decide +kernel)
theorem dL_law_744 : decode cL_law 744 = .ok (.iconst 2, 1) := dz_e0 dz_5 hI_L_law (by decide +kernel)
theorem dL_law_745 : decode cL_law 745 = .ok (.iadd, 1) := dz_e0 dz_96 hI_L_law (by decide +kernel)
theorem dL_law_746 : decode cL_law 746 = .ok (.iaload, 1) := dz_e0 dz_46 hI_L_law (by decide +kernel)
theorem dL_law_747 : decode cL_law 747 = .ok (.ifCond .eq 7, 3) := dz_f2 dz_153 hI_L_law (by decide +kernel)
theorem dL_law_750 : decode cL_law 750 = .ok (.iconst 1, 1) := dz_e0 dz_4 hI_L_law (by decide +kernel)
theorem dL_law_751 : decode cL_law 751 = .ok (.goto 4, 3) := dz_f2 dz_167 hI_L_law (by decide +kernel)
theorem dL_law_754 : decode cL_law 754 = .ok (.iconst 0, 1) := dz_e0 dz_3 hI_L_law (by decide +kernel)
theorem dL_law_755 : decode cL_law 755 = .ok (.aload_n 0, 1) := dz_e0 dz_42 hI_L_law (by decide +kernel)
theorem dL_law_756 : decode cL_law 756 = .ok (.iload 4, 2) := dz_e1 dz_21 hI_L_law (by decide +kernel)
theorem dL_law_758 : decode cL_law 758 = .ok (.iconst 3, 1) := dz_e0 dz_6 hI_L_law (by decide +kernel)
theorem dL_law_759 : decode cL_law 759 = .ok (.iadd, 1) := dz_e0 dz_96 hI_L_law (by decide +kernel)
theorem dL_law_760 : decode cL_law 760 = .ok (.iaload, 1) := dz_e0 dz_46 hI_L_law (by decide +kernel)
theorem dL_law_761 : decode cL_law 761 = .ok (.aload_n 0, 1) := dz_e0 dz_42 hI_L_law (by decide +kernel)
theorem dL_law_762 : decode cL_law 762 = .ok (.iload 4, 2) := dz_e1 dz_21 hI_L_law (by decide +kernel)
theorem dL_law_764 : decode cL_law 764 = .ok (.iconst 4, 1) := dz_e0 dz_7 hI_L_law (by decide +kernel)
theorem dL_law_765 : decode cL_law 765 = .ok (.iadd, 1) := dz_e0 dz_96 hI_L_law (by decide +kernel)
theorem dL_law_766 : decode cL_law 766 = .ok (.iaload, 1) := dz_e0 dz_46 hI_L_law (by decide +kernel)
theorem dL_law_767 : decode cL_law 767 = .ok (.aload_n 0, 1) := dz_e0 dz_42 hI_L_law (by decide +kernel)
theorem dL_law_768 : decode cL_law 768 = .ok (.iload 4, 2) := dz_e1 dz_21 hI_L_law (by decide +kernel)
theorem dL_law_770 : decode cL_law 770 = .ok (.iconst 5, 1) := dz_e0 dz_8 hI_L_law (by decide +kernel)
theorem dL_law_771 : decode cL_law 771 = .ok (.iadd, 1) := dz_e0 dz_96 hI_L_law (by decide +kernel)
theorem dL_law_772 : decode cL_law 772 = .ok (.iaload, 1) := dz_e0 dz_46 hI_L_law (by decide +kernel)
theorem dL_law_773 : decode cL_law 773 = .ok (.invokevirtual 178, 3) := dz_e2 dz_182 hI_L_law (by decide +kernel)
theorem dL_law_776 : decode cL_law 776 = .ok (.istore 6, 2) := dz_e1 dz_54 hI_L_law (by decide +kernel)
theorem dL_law_778 : decode cL_law 778 = .ok (.goto 1102, 3) := dz_f2 dz_167 hI_L_law (by decide +kernel)
set_option maxHeartbeats 4000000 in
set_option maxRecDepth 100000 in
theorem lc_9 : Lc 689 := by
  intro κ p l e s m args below meth c A ret b L o i xs a a2 r2 r q q2 f f2 n v cells slots Q H locs ls hst hX hx9 hbl hbA hi hL hok hm hr hB hl hc hs kk
  have hx := hX.1.1
  have hb := hX.1.2.1
  refine lv_aload_n hx hb dL_law_689 rfl (lv_at hl 1 rfl) ?_
  obtain ⟨z1, e1⟩ : ∃ z, xs (6 * i + 1) = z := ⟨_, rfl⟩
  refine lv_scr (k := 1) hX hB hx9 hbl hbA hi hL hl dL_law_690 dL_law_691 dL_law_693 dL_law_694 dL_law_695 (by decide) (by decide) e1 ?_
  obtain ⟨z2, e2⟩ : ∃ z, xs (6 * i + 2) = z := ⟨_, rfl⟩
  refine lv_scr (k := 2) hX hB hx9 hbl hbA hi hL hl dL_law_696 dL_law_697 dL_law_699 dL_law_700 dL_law_701 (by decide) (by decide) e2 ?_
  obtain ⟨y2, dy2⟩ : ∃ z, bz z2 = z := ⟨_, rfl⟩
  refine lv_bool hX dL_law_702 dL_law_705 dL_law_706 dL_law_709 dy2 ?_
  obtain ⟨z3, e3⟩ : ∃ z, xs (6 * i + 3) = z := ⟨_, rfl⟩
  refine lv_scr (k := 3) hX hB hx9 hbl hbA hi hL hl dL_law_710 dL_law_711 dL_law_713 dL_law_714 dL_law_715 (by decide) (by decide) e3 ?_
  obtain ⟨z4, e4⟩ : ∃ z, xs (6 * i + 4) = z := ⟨_, rfl⟩
  refine lv_scr (k := 4) hX hB hx9 hbl hbA hi hL hl dL_law_716 dL_law_717 dL_law_719 dL_law_720 dL_law_721 (by decide) (by decide) e4 ?_
  obtain ⟨z5, e5⟩ : ∃ z, xs (6 * i + 5) = z := ⟨_, rfl⟩
  refine lv_scr (k := 5) hX hB hx9 hbl hbA hi hL hl dL_law_722 dL_law_723 dL_law_725 dL_law_726 dL_law_727 (by decide) (by decide) e5 ?_
  refine lv_aload_n hx hb dL_law_728 rfl (lv_at hl 3 rfl) ?_
  replace hB := Lw_1 hB
  obtain ⟨Y, hY⟩ : ∃ Y, D_X5_add r q f z1 y2 z3 z4 z5 = Y := ⟨_, rfl⟩
  refine call_SW (n := 7) (As := [.ref (a 0), .int z1, .int y2, .int z3, .int z4, .int z5, .ref o]) (rest := []) hX hB (CMW_frame (mw κ a2 r2 f2 q2 (tb a2) []) (w_add κ l hst a r q f o n v z1 y2 z3 z4 z5 hok Y hY)) ⟨by decide, by decide, by decide +kernel⟩ wm_3_116 wm_3_117 wm_1_0 wm_3_118 ⟨Nat.le_of_ble_eq_true rfl, Nat.le_of_ble_eq_true rfl⟩ ⟨by show _ ≤ 600128; omega, by show _ ≤ 7301098; omega⟩ rfl hl.1 rfl (Nat.le_of_ble_eq_true rfl) dL_law_729 (fun o9 w' H locs hp hB => ?_)
  obtain ⟨_, ⟨x1, n1, v1, rfl, ho, hq, hW, rfl⟩, rfl⟩ := hp
  refine W.eq (g2 := F0 m 732 ls [.int x1]) rfl ?_
  refine lv_istore (lv' := [(5, .int x1), (0, .ref b), (1, .ref (a 0)), (2, .ref (a2 0)), (3, .ref o), (4, .int (nI (6 * i)))]) hx hb dL_law_732 hl (by decide) rfl (fun ls hl => ?_)
  have hl0 := hl
  replace hl : lv_has ls 7 (Lv b (a 0) (a2 0) o i) := lv_sub hl [1, 2, 3, 4, 5] rfl
  refine lv_aload_n hx hb dL_law_734 rfl (lv_at hl 2 rfl) ?_
  refine lv_scr (k := 1) hX hB hx9 hbl hbA hi hL hl dL_law_735 dL_law_736 dL_law_738 dL_law_739 dL_law_740 (by decide) (by decide) e1 ?_
  refine lv_scr (k := 2) hX hB hx9 hbl hbA hi hL hl dL_law_741 dL_law_742 dL_law_744 dL_law_745 dL_law_746 (by decide) (by decide) e2 ?_
  refine lv_bool hX dL_law_747 dL_law_750 dL_law_751 dL_law_754 dy2 ?_
  refine lv_scr (k := 3) hX hB hx9 hbl hbA hi hL hl dL_law_755 dL_law_756 dL_law_758 dL_law_759 dL_law_760 (by decide) (by decide) e3 ?_
  refine lv_scr (k := 4) hX hB hx9 hbl hbA hi hL hl dL_law_761 dL_law_762 dL_law_764 dL_law_765 dL_law_766 (by decide) (by decide) e4 ?_
  refine lv_scr (k := 5) hX hB hx9 hbl hbA hi hL hl dL_law_767 dL_law_768 dL_law_770 dL_law_771 dL_law_772 (by decide) (by decide) e5 ?_
  replace hB := Lw_2 hB
  obtain ⟨Z, hZ⟩ : ∃ Z, D_X10_add r2 f2 q2 z1 y2 z3 z4 z5 = Z := ⟨_, rfl⟩
  refine call_V (n := 5) (k0 := 0) (As := [.int z1, .int y2, .int z3, .int z4, .int z5]) (rest := []) hX hB (k_X10_add κ l (cw κ a Y.2.2.1 Y.2.2.2.1 Y.2.2.2.2 ++ [Ot o n1 v1]) a2 r2 f2 q2 z1 y2 z3 z4 z5 hm _ _ _ _ (hZ.trans (te4 Z))) ⟨rfl, by decide, by decide, by decide +kernel⟩ wm_6_71 wm_6_72 wm_6_73 wm_1_6 wm_6_74 ⟨Nat.le_of_ble_eq_true rfl, Nat.le_of_ble_eq_true rfl⟩ ⟨by show _ ≤ 600128; omega, by show _ ≤ 7301098; omega⟩ mw0 rfl rfl rfl hl.1 rfl (Nat.le_of_ble_eq_true rfl) dL_law_773 (fun o9 w' H locs hp hB => ?_)
  obtain ⟨a3, rfl, hf0, hf1, hf2, rfl⟩ := hp
  have hO : Ok Y Z := by rw [← hY, ← hZ]; exact add_eq hr
  refine W.eq (g2 := F0 m 776 ls [.int Z.1]) rfl ?_
  refine lv_istore (lv' := [(6, .int Z.1), (5, .int x1), (0, .ref b), (1, .ref (a 0)), (2, .ref (a2 0)), (3, .ref o), (4, .int (nI (6 * i)))]) hx hb dL_law_776 hl0 (by decide) rfl (fun ls hl => ?_)
  have hl0 := hl
  replace hl : lv_has ls 7 (Lv b (a 0) (a2 0) o i) := lv_sub hl [2, 3, 4, 5, 6] rfl
  refine lv_goto (tgt := 1880) hx hb dL_law_778 (by decide) ?_
  replace hB := Lw_3 hB
  refine W.widen (k := cells + 100) (n := slots + 70000) (by omega) (by omega) ?_
  exact kk _ _ _ _ _ _ _ _ _ _ _ _ (ho hok) hf1 hO.1 hf0 hB hl
theorem dL_law_781 : decode cL_law 781 = .ok (.aload_n 1, 1) := dz_e0 dz_43 hI_L_law (by decide +kernel)
theorem dL_law_782 : decode cL_law 782 = .ok (.aload_n 0, 1) := dz_e0 dz_42 hI_L_law (by decide +kernel)
theorem dL_law_783 : decode cL_law 783 = .ok (.iload 4, 2) := dz_e1 dz_21 hI_L_law (by decide +kernel)
theorem dL_law_785 : decode cL_law 785 = .ok (.iconst 1, 1) := dz_e0 dz_4 hI_L_law (by decide +kernel)
theorem dL_law_786 : decode cL_law 786 = .ok (.iadd, 1) := dz_e0 dz_96 hI_L_law (by decide +kernel)
theorem dL_law_787 : decode cL_law 787 = .ok (.iaload, 1) := dz_e0 dz_46 hI_L_law (by decide +kernel)
theorem dL_law_788 : decode cL_law 788 = .ok (.aload_n 0, 1) := dz_e0 dz_42 hI_L_law (by decide +kernel)
theorem dL_law_789 : decode cL_law 789 = .ok (.iload 4, 2) := dz_e1 dz_21 hI_L_law (by decide +kernel)
theorem dL_law_791 : decode cL_law 791 = .ok (.iconst 2, 1) := dz_e0 dz_5 hI_L_law (by decide +kernel)
theorem dL_law_792 : decode cL_law 792 = .ok (.iadd, 1) := dz_e0 dz_96 hI_L_law (by decide +kernel)
theorem dL_law_793 : decode cL_law 793 = .ok (.iaload, 1) := dz_e0 dz_46 hI_L_law (by decide +kernel)
theorem dL_law_794 : decode cL_law 794 = .ok (.ifCond .eq 7, 3) := dz_f2 dz_153 hI_L_law (by decide +kernel)
theorem dL_law_797 : decode cL_law 797 = .ok (.iconst 1, 1) := dz_e0 dz_4 hI_L_law (by decide +kernel)
theorem dL_law_798 : decode cL_law 798 = .ok (.goto 4, 3) := dz_f2 dz_167 hI_L_law (by decide +kernel)
theorem dL_law_801 : decode cL_law 801 = .ok (.iconst 0, 1) := dz_e0 dz_3 hI_L_law (by decide +kernel)
theorem dL_law_802 : decode cL_law 802 = .ok (.aload_n 3, 1) := dz_e0 dz_45 hI_L_law (by decide +kernel)
theorem dL_law_803 : decode cL_law 803 = .ok (.invokestatic 179, 3) := dz_e2 dz_184 hI_L_law (by decide +kernel)
theorem dL_law_806 : decode cL_law 806 = .ok (.istore 5, 2) := dz_e1 dz_54 hI_L_law (by decide +kernel)
theorem dL_law_808 : decode cL_law 808 = .ok (.aload_n 2, 1) := dz_e0 dz_44 hI_L_law (by decide +kernel)
theorem dL_law_809 : decode cL_law 809 = .ok (.aload_n 0, 1) := dz_e0 dz_42 hI_L_law (by decide +kernel)
theorem dL_law_810 : decode cL_law 810 = .ok (.iload 4, 2) := dz_e1 dz_21 hI_L_law (by decide +kernel)
theorem dL_law_812 : decode cL_law 812 = .ok (.iconst 1, 1) := dz_e0 dz_4 hI_L_law (by decide +kernel)
theorem dL_law_813 : decode cL_law 813 = .ok (.iadd, 1) := dz_e0 dz_96 hI_L_law (by decide +kernel)
theorem dL_law_814 : decode cL_law 814 = .ok (.iaload, 1) := dz_e0 dz_46 hI_L_law (by decide +kernel)
theorem dL_law_815 : decode cL_law 815 = .ok (.aload_n 0, 1) := dz_e0 dz_42 hI_L_law (by decide +kernel)
theorem dL_law_816 : decode cL_law 816 = .ok (.iload 4, 2) := dz_e1 dz_21 hI_L_law (by decide +kernel)
theorem dL_law_818 : decode cL_law 818 = .ok (.iconst 2, 1) := dz_e0 dz_5 hI_L_law (by decide +kernel)
theorem dL_law_819 : decode cL_law 819 = .ok (.iadd, 1) := dz_e0 dz_96 hI_L_law (by decide +kernel)
theorem dL_law_820 : decode cL_law 820 = .ok (.iaload, 1) := dz_e0 dz_46 hI_L_law (by decide +kernel)
theorem dL_law_821 : decode cL_law 821 = .ok (.ifCond .eq 7, 3) := dz_f2 dz_153 hI_L_law (by decide +kernel)
theorem dL_law_824 : decode cL_law 824 = .ok (.iconst 1, 1) := dz_e0 dz_4 hI_L_law (by decide +kernel)
theorem dL_law_825 : decode cL_law 825 = .ok (.goto 4, 3) := dz_f2 dz_167 hI_L_law (by decide +kernel)
theorem dL_law_828 : decode cL_law 828 = .ok (.iconst 0, 1) := dz_e0 dz_3 hI_L_law (by decide +kernel)
theorem dL_law_829 : decode cL_law 829 = .ok (.invokevirtual 182, 3) := dz_e2 dz_182 hI_L_law (by decide +kernel)
theorem dL_law_832 : decode cL_law 832 = .ok (.istore 6, 2) := dz_e1 dz_54 hI_L_law (by decide +kernel)
theorem dL_law_834 : decode cL_law 834 = .ok (.goto 1046, 3) := dz_f2 dz_167 hI_L_law (by decide +kernel)
set_option maxHeartbeats 4000000 in
set_option maxRecDepth 100000 in
theorem lc_10 : Lc 781 := by
  intro κ p l e s m args below meth c A ret b L o i xs a a2 r2 r q q2 f f2 n v cells slots Q H locs ls hst hX hx9 hbl hbA hi hL hok hm hr hB hl hc hs kk
  have hx := hX.1.1
  have hb := hX.1.2.1
  refine lv_aload_n hx hb dL_law_781 rfl (lv_at hl 1 rfl) ?_
  obtain ⟨z1, e1⟩ : ∃ z, xs (6 * i + 1) = z := ⟨_, rfl⟩
  refine lv_scr (k := 1) hX hB hx9 hbl hbA hi hL hl dL_law_782 dL_law_783 dL_law_785 dL_law_786 dL_law_787 (by decide) (by decide) e1 ?_
  obtain ⟨z2, e2⟩ : ∃ z, xs (6 * i + 2) = z := ⟨_, rfl⟩
  refine lv_scr (k := 2) hX hB hx9 hbl hbA hi hL hl dL_law_788 dL_law_789 dL_law_791 dL_law_792 dL_law_793 (by decide) (by decide) e2 ?_
  obtain ⟨y2, dy2⟩ : ∃ z, bz z2 = z := ⟨_, rfl⟩
  refine lv_bool hX dL_law_794 dL_law_797 dL_law_798 dL_law_801 dy2 ?_
  refine lv_aload_n hx hb dL_law_802 rfl (lv_at hl 3 rfl) ?_
  replace hB := Lw_1 hB
  obtain ⟨Y, hY⟩ : ∃ Y, D_X5_widen r q f z1 y2 = Y := ⟨_, rfl⟩
  refine call_SW (n := 4) (As := [.ref (a 0), .int z1, .int y2, .ref o]) (rest := []) hX hB (CMW_frame (mw κ a2 r2 f2 q2 (tb a2) []) (w_widen κ l hst a r q f o n v z1 y2 hok Y hY)) ⟨by decide, by decide, by decide +kernel⟩ wm_3_124 wm_3_125 wm_1_0 wm_3_126 ⟨Nat.le_of_ble_eq_true rfl, Nat.le_of_ble_eq_true rfl⟩ ⟨by show _ ≤ 600128; omega, by show _ ≤ 7301098; omega⟩ rfl hl.1 rfl (Nat.le_of_ble_eq_true rfl) dL_law_803 (fun o9 w' H locs hp hB => ?_)
  obtain ⟨_, ⟨x1, n1, v1, rfl, ho, hq, hW, rfl⟩, rfl⟩ := hp
  refine W.eq (g2 := F0 m 806 ls [.int x1]) rfl ?_
  refine lv_istore (lv' := [(5, .int x1), (0, .ref b), (1, .ref (a 0)), (2, .ref (a2 0)), (3, .ref o), (4, .int (nI (6 * i)))]) hx hb dL_law_806 hl (by decide) rfl (fun ls hl => ?_)
  have hl0 := hl
  replace hl : lv_has ls 7 (Lv b (a 0) (a2 0) o i) := lv_sub hl [1, 2, 3, 4, 5] rfl
  refine lv_aload_n hx hb dL_law_808 rfl (lv_at hl 2 rfl) ?_
  refine lv_scr (k := 1) hX hB hx9 hbl hbA hi hL hl dL_law_809 dL_law_810 dL_law_812 dL_law_813 dL_law_814 (by decide) (by decide) e1 ?_
  refine lv_scr (k := 2) hX hB hx9 hbl hbA hi hL hl dL_law_815 dL_law_816 dL_law_818 dL_law_819 dL_law_820 (by decide) (by decide) e2 ?_
  refine lv_bool hX dL_law_821 dL_law_824 dL_law_825 dL_law_828 dy2 ?_
  replace hB := Lw_2 hB
  obtain ⟨Z, hZ⟩ : ∃ Z, D_X10_widen r2 f2 q2 z1 y2 = Z := ⟨_, rfl⟩
  refine call_V (n := 2) (k0 := 0) (As := [.int z1, .int y2]) (rest := []) hX hB (k_X10_widen κ l (cw κ a Y.2.2.1 Y.2.2.2.1 Y.2.2.2.2 ++ [Ot o n1 v1]) a2 r2 f2 q2 z1 y2 hm _ _ _ _ (hZ.trans (te4 Z))) ⟨rfl, by decide, by decide, by decide +kernel⟩ wm_6_93 wm_6_94 wm_6_95 wm_1_6 wm_6_96 ⟨Nat.le_of_ble_eq_true rfl, Nat.le_of_ble_eq_true rfl⟩ ⟨by show _ ≤ 600128; omega, by show _ ≤ 7301098; omega⟩ mw0 rfl rfl rfl hl.1 rfl (Nat.le_of_ble_eq_true rfl) dL_law_829 (fun o9 w' H locs hp hB => ?_)
  obtain ⟨a3, rfl, hf0, hf1, hf2, rfl⟩ := hp
  have hO : Ok Y Z := by rw [← hY, ← hZ]; exact widen_eq hr
  refine W.eq (g2 := F0 m 832 ls [.int Z.1]) rfl ?_
  refine lv_istore (lv' := [(6, .int Z.1), (5, .int x1), (0, .ref b), (1, .ref (a 0)), (2, .ref (a2 0)), (3, .ref o), (4, .int (nI (6 * i)))]) hx hb dL_law_832 hl0 (by decide) rfl (fun ls hl => ?_)
  have hl0 := hl
  replace hl : lv_has ls 7 (Lv b (a 0) (a2 0) o i) := lv_sub hl [2, 3, 4, 5, 6] rfl
  refine lv_goto (tgt := 1880) hx hb dL_law_834 (by decide) ?_
  replace hB := Lw_3 hB
  refine W.widen (k := cells + 100) (n := slots + 70000) (by omega) (by omega) ?_
  exact kk _ _ _ _ _ _ _ _ _ _ _ _ (ho hok) hf1 hO.1 hf0 hB hl
theorem dL_law_837 : decode cL_law 837 = .ok (.aload_n 1, 1) := dz_e0 dz_43 hI_L_law (by decide +kernel)
theorem dL_law_838 : decode cL_law 838 = .ok (.aload_n 0, 1) := dz_e0 dz_42 hI_L_law (by decide +kernel)
theorem dL_law_839 : decode cL_law 839 = .ok (.iload 4, 2) := dz_e1 dz_21 hI_L_law (by decide +kernel)
theorem dL_law_841 : decode cL_law 841 = .ok (.iconst 1, 1) := dz_e0 dz_4 hI_L_law (by decide +kernel)
theorem dL_law_842 : decode cL_law 842 = .ok (.iadd, 1) := dz_e0 dz_96 hI_L_law (by decide +kernel)
theorem dL_law_843 : decode cL_law 843 = .ok (.iaload, 1) := dz_e0 dz_46 hI_L_law (by decide +kernel)
theorem dL_law_844 : decode cL_law 844 = .ok (.aload_n 0, 1) := dz_e0 dz_42 hI_L_law (by decide +kernel)
theorem dL_law_845 : decode cL_law 845 = .ok (.iload 4, 2) := dz_e1 dz_21 hI_L_law (by decide +kernel)
theorem dL_law_847 : decode cL_law 847 = .ok (.iconst 2, 1) := dz_e0 dz_5 hI_L_law (by decide +kernel)
theorem dL_law_848 : decode cL_law 848 = .ok (.iadd, 1) := dz_e0 dz_96 hI_L_law (by decide +kernel)
theorem dL_law_849 : decode cL_law 849 = .ok (.iaload, 1) := dz_e0 dz_46 hI_L_law (by decide +kernel)
theorem dL_law_850 : decode cL_law 850 = .ok (.ifCond .eq 7, 3) := dz_f2 dz_153 hI_L_law (by decide +kernel)
theorem dL_law_853 : decode cL_law 853 = .ok (.iconst 1, 1) := dz_e0 dz_4 hI_L_law (by decide +kernel)
theorem dL_law_854 : decode cL_law 854 = .ok (.goto 4, 3) := dz_f2 dz_167 hI_L_law (by decide +kernel)
theorem dL_law_857 : decode cL_law 857 = .ok (.iconst 0, 1) := dz_e0 dz_3 hI_L_law (by decide +kernel)
theorem dL_law_858 : decode cL_law 858 = .ok (.aload_n 0, 1) := dz_e0 dz_42 hI_L_law (by decide +kernel)
theorem dL_law_859 : decode cL_law 859 = .ok (.iload 4, 2) := dz_e1 dz_21 hI_L_law (by decide +kernel)
theorem dL_law_861 : decode cL_law 861 = .ok (.iconst 3, 1) := dz_e0 dz_6 hI_L_law (by decide +kernel)
theorem dL_law_862 : decode cL_law 862 = .ok (.iadd, 1) := dz_e0 dz_96 hI_L_law (by decide +kernel)
theorem dL_law_863 : decode cL_law 863 = .ok (.iaload, 1) := dz_e0 dz_46 hI_L_law (by decide +kernel)
theorem dL_law_864 : decode cL_law 864 = .ok (.aload_n 3, 1) := dz_e0 dz_45 hI_L_law (by decide +kernel)
theorem dL_law_865 : decode cL_law 865 = .ok (.invokestatic 183, 3) := dz_e2 dz_184 hI_L_law (by decide +kernel)
theorem dL_law_868 : decode cL_law 868 = .ok (.istore 5, 2) := dz_e1 dz_54 hI_L_law (by decide +kernel)
theorem dL_law_870 : decode cL_law 870 = .ok (.aload_n 2, 1) := dz_e0 dz_44 hI_L_law (by decide +kernel)
theorem dL_law_871 : decode cL_law 871 = .ok (.aload_n 0, 1) := dz_e0 dz_42 hI_L_law (by decide +kernel)
theorem dL_law_872 : decode cL_law 872 = .ok (.iload 4, 2) := dz_e1 dz_21 hI_L_law (by decide +kernel)
theorem dL_law_874 : decode cL_law 874 = .ok (.iconst 1, 1) := dz_e0 dz_4 hI_L_law (by decide +kernel)
theorem dL_law_875 : decode cL_law 875 = .ok (.iadd, 1) := dz_e0 dz_96 hI_L_law (by decide +kernel)
theorem dL_law_876 : decode cL_law 876 = .ok (.iaload, 1) := dz_e0 dz_46 hI_L_law (by decide +kernel)
theorem dL_law_877 : decode cL_law 877 = .ok (.aload_n 0, 1) := dz_e0 dz_42 hI_L_law (by decide +kernel)
theorem dL_law_878 : decode cL_law 878 = .ok (.iload 4, 2) := dz_e1 dz_21 hI_L_law (by decide +kernel)
theorem dL_law_880 : decode cL_law 880 = .ok (.iconst 2, 1) := dz_e0 dz_5 hI_L_law (by decide +kernel)
theorem dL_law_881 : decode cL_law 881 = .ok (.iadd, 1) := dz_e0 dz_96 hI_L_law (by decide +kernel)
theorem dL_law_882 : decode cL_law 882 = .ok (.iaload, 1) := dz_e0 dz_46 hI_L_law (by decide +kernel)
theorem dL_law_883 : decode cL_law 883 = .ok (.ifCond .eq 7, 3) := dz_f2 dz_153 hI_L_law (by decide +kernel)
theorem dL_law_886 : decode cL_law 886 = .ok (.iconst 1, 1) := dz_e0 dz_4 hI_L_law (by decide +kernel)
theorem dL_law_887 : decode cL_law 887 = .ok (.goto 4, 3) := dz_f2 dz_167 hI_L_law (by decide +kernel)
theorem dL_law_890 : decode cL_law 890 = .ok (.iconst 0, 1) := dz_e0 dz_3 hI_L_law (by decide +kernel)
theorem dL_law_891 : decode cL_law 891 = .ok (.aload_n 0, 1) := dz_e0 dz_42 hI_L_law (by decide +kernel)
theorem dL_law_892 : decode cL_law 892 = .ok (.iload 4, 2) := dz_e1 dz_21 hI_L_law (by decide +kernel)
theorem dL_law_894 : decode cL_law 894 = .ok (.iconst 3, 1) := dz_e0 dz_6 hI_L_law (by decide +kernel)
theorem dL_law_895 : decode cL_law 895 = .ok (.iadd, 1) := dz_e0 dz_96 hI_L_law (by decide +kernel)
theorem dL_law_896 : decode cL_law 896 = .ok (.iaload, 1) := dz_e0 dz_46 hI_L_law (by decide +kernel)
theorem dL_law_897 : decode cL_law 897 = .ok (.invokevirtual 185, 3) := dz_e2 dz_182 hI_L_law (by decide +kernel)
theorem dL_law_900 : decode cL_law 900 = .ok (.istore 6, 2) := dz_e1 dz_54 hI_L_law (by decide +kernel)
theorem dL_law_902 : decode cL_law 902 = .ok (.goto 978, 3) := dz_f2 dz_167 hI_L_law (by decide +kernel)
set_option maxHeartbeats 4000000 in
set_option maxRecDepth 100000 in
theorem lc_11 : Lc 837 := by
  intro κ p l e s m args below meth c A ret b L o i xs a a2 r2 r q q2 f f2 n v cells slots Q H locs ls hst hX hx9 hbl hbA hi hL hok hm hr hB hl hc hs kk
  have hx := hX.1.1
  have hb := hX.1.2.1
  refine lv_aload_n hx hb dL_law_837 rfl (lv_at hl 1 rfl) ?_
  obtain ⟨z1, e1⟩ : ∃ z, xs (6 * i + 1) = z := ⟨_, rfl⟩
  refine lv_scr (k := 1) hX hB hx9 hbl hbA hi hL hl dL_law_838 dL_law_839 dL_law_841 dL_law_842 dL_law_843 (by decide) (by decide) e1 ?_
  obtain ⟨z2, e2⟩ : ∃ z, xs (6 * i + 2) = z := ⟨_, rfl⟩
  refine lv_scr (k := 2) hX hB hx9 hbl hbA hi hL hl dL_law_844 dL_law_845 dL_law_847 dL_law_848 dL_law_849 (by decide) (by decide) e2 ?_
  obtain ⟨y2, dy2⟩ : ∃ z, bz z2 = z := ⟨_, rfl⟩
  refine lv_bool hX dL_law_850 dL_law_853 dL_law_854 dL_law_857 dy2 ?_
  obtain ⟨z3, e3⟩ : ∃ z, xs (6 * i + 3) = z := ⟨_, rfl⟩
  refine lv_scr (k := 3) hX hB hx9 hbl hbA hi hL hl dL_law_858 dL_law_859 dL_law_861 dL_law_862 dL_law_863 (by decide) (by decide) e3 ?_
  refine lv_aload_n hx hb dL_law_864 rfl (lv_at hl 3 rfl) ?_
  replace hB := Lw_1 hB
  obtain ⟨Y, hY⟩ : ∃ Y, D_X5_drop r q f z1 y2 z3 = Y := ⟨_, rfl⟩
  refine call_SW (n := 5) (As := [.ref (a 0), .int z1, .int y2, .int z3, .ref o]) (rest := []) hX hB (CMW_frame (mw κ a2 r2 f2 q2 (tb a2) []) (w_drop κ l hst a r q f o n v z1 y2 z3 hok Y hY)) ⟨by decide, by decide, by decide +kernel⟩ wm_3_139 wm_3_140 wm_1_0 wm_3_141 ⟨Nat.le_of_ble_eq_true rfl, Nat.le_of_ble_eq_true rfl⟩ ⟨by show _ ≤ 600128; omega, by show _ ≤ 7301098; omega⟩ rfl hl.1 rfl (Nat.le_of_ble_eq_true rfl) dL_law_865 (fun o9 w' H locs hp hB => ?_)
  obtain ⟨_, ⟨x1, n1, v1, rfl, ho, hq, hW, rfl⟩, rfl⟩ := hp
  refine W.eq (g2 := F0 m 868 ls [.int x1]) rfl ?_
  refine lv_istore (lv' := [(5, .int x1), (0, .ref b), (1, .ref (a 0)), (2, .ref (a2 0)), (3, .ref o), (4, .int (nI (6 * i)))]) hx hb dL_law_868 hl (by decide) rfl (fun ls hl => ?_)
  have hl0 := hl
  replace hl : lv_has ls 7 (Lv b (a 0) (a2 0) o i) := lv_sub hl [1, 2, 3, 4, 5] rfl
  refine lv_aload_n hx hb dL_law_870 rfl (lv_at hl 2 rfl) ?_
  refine lv_scr (k := 1) hX hB hx9 hbl hbA hi hL hl dL_law_871 dL_law_872 dL_law_874 dL_law_875 dL_law_876 (by decide) (by decide) e1 ?_
  refine lv_scr (k := 2) hX hB hx9 hbl hbA hi hL hl dL_law_877 dL_law_878 dL_law_880 dL_law_881 dL_law_882 (by decide) (by decide) e2 ?_
  refine lv_bool hX dL_law_883 dL_law_886 dL_law_887 dL_law_890 dy2 ?_
  refine lv_scr (k := 3) hX hB hx9 hbl hbA hi hL hl dL_law_891 dL_law_892 dL_law_894 dL_law_895 dL_law_896 (by decide) (by decide) e3 ?_
  replace hB := Lw_2 hB
  obtain ⟨Z, hZ⟩ : ∃ Z, D_X10_drop r2 f2 q2 z1 y2 z3 = Z := ⟨_, rfl⟩
  refine call_V (n := 3) (k0 := 0) (As := [.int z1, .int y2, .int z3]) (rest := []) hX hB (k_X10_drop κ l (cw κ a Y.2.2.1 Y.2.2.2.1 Y.2.2.2.2 ++ [Ot o n1 v1]) a2 r2 f2 q2 z1 y2 z3 hm _ _ _ _ (hZ.trans (te4 Z))) ⟨rfl, by decide, by decide, by decide +kernel⟩ wm_6_100 wm_6_101 wm_6_102 wm_1_6 wm_6_103 ⟨Nat.le_of_ble_eq_true rfl, Nat.le_of_ble_eq_true rfl⟩ ⟨by show _ ≤ 600128; omega, by show _ ≤ 7301098; omega⟩ mw0 rfl rfl rfl hl.1 rfl (Nat.le_of_ble_eq_true rfl) dL_law_897 (fun o9 w' H locs hp hB => ?_)
  obtain ⟨a3, rfl, hf0, hf1, hf2, rfl⟩ := hp
  have hO : Ok Y Z := by rw [← hY, ← hZ]; exact drop_eq hr
  refine W.eq (g2 := F0 m 900 ls [.int Z.1]) rfl ?_
  refine lv_istore (lv' := [(6, .int Z.1), (5, .int x1), (0, .ref b), (1, .ref (a 0)), (2, .ref (a2 0)), (3, .ref o), (4, .int (nI (6 * i)))]) hx hb dL_law_900 hl0 (by decide) rfl (fun ls hl => ?_)
  have hl0 := hl
  replace hl : lv_has ls 7 (Lv b (a 0) (a2 0) o i) := lv_sub hl [2, 3, 4, 5, 6] rfl
  refine lv_goto (tgt := 1880) hx hb dL_law_902 (by decide) ?_
  replace hB := Lw_3 hB
  refine W.widen (k := cells + 100) (n := slots + 70000) (by omega) (by omega) ?_
  exact kk _ _ _ _ _ _ _ _ _ _ _ _ (ho hok) hf1 hO.1 hf0 hB hl
