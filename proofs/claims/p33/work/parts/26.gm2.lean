
set_option maxHeartbeats 4000000 in
set_option maxRecDepth 100000 in
theorem k_X5_countLikePairs (κ : Kt) (l : Launch) (a : Nat → Nat) (r q : Nat → Int32) (f : Nat → Nat → Int64)  : CM κ l yX5_countLikePairs cX5_countLikePairs 4 (some .int) 3 67 0 0 [.ref (a 0)] (cw κ a r q f) (fun o w' => ∃ x : Int32, o = some (.int x) ∧ w' = cw κ a r q f) := by
  refine CM_begin (plainFor_of_name (by decide)) (Nat.le_of_ble_eq_true rfl) ?_
  intro p e s m args below meth c A Q hX hnm hA3 hQ hB ls hl
  have hx := hX.1.1
  have hb := hX.1.2.1
  have hl : lv_has ls 4 [(0, .ref (a 0))] := hl
  refine lv_iconst (v := 0) hx hb dX5_countLikePairs_0 (by decide) ?_
  refine lv_istore_n (lv' := [(1, .int 0), (0, .ref (a 0))]) hx hb dX5_countLikePairs_1 rfl hl (by decide) rfl (fun ls hl => ?_)
  refine lv_iconst (v := 0) hx hb dX5_countLikePairs_2 (by decide) ?_
  refine lv_istore_n (lv' := [(2, .int 0), (1, .int 0), (0, .ref (a 0))]) hx hb dX5_countLikePairs_3 rfl hl (by decide) rfl (fun ls hl => ?_)
  have lp4 : ∀ (nn : Nat) (y2_4 : Int32) (y1_4 : Int32) (H : Heap) (locs : List Loc), 0 ≤ y2_4 → gap 4 y2_4 < nn → Bd κ A s (cw κ a r q f) H locs → ∀ ls : Array Slot, lv_has ls 4 [(2, .int y2_4), (1, .int y1_4), (0, .ref (a 0))] → W p l e (Rm 3 67 0 0) s m args below meth c H locs 0 0 Q (F0 m 4 ls []) := by
    intro nn
    induction nn with
    | zero => intro y2_4 y1_4 H locs hn2_4 hμ; exact absurd hμ (Nat.not_lt_zero _)
    | succ nn ih4 =>
      intro y2_4 y1_4 H locs hn2_4 hμ4 hB ls hl
      refine lv_iload_n hx hb dX5_countLikePairs_4 rfl (lv_at hl 0 rfl) ?_
      refine lv_iconst (v := 4) hx hb dX5_countLikePairs_5 (by decide) ?_
      refine lv_icmp_ge (tgt := 51) hx hb dX5_countLikePairs_6 (by decide) (fun c21 => ?_) (fun c21 => ?_)
      · refine lv_iload_n hx hb dX5_countLikePairs_51 rfl (lv_at hl 1 rfl) ?_
        rw [← hQ]
        exact end_i hX hB hA3 rfl rfl ⟨y1_4, rfl, rfl⟩ (Nat.le_of_ble_eq_true rfl) (Nat.le_of_ble_eq_true rfl) dX5_countLikePairs_52
      · refine lv_iload_n hx hb dX5_countLikePairs_9 rfl (lv_at hl 0 rfl) ?_
        refine lv_iconst (v := 1) hx hb dX5_countLikePairs_10 (by decide) ?_
        refine lv_iadd hx hb dX5_countLikePairs_11 ?_
        refine lv_istore_n (lv' := [(3, .int (y2_4 + 1)), (2, .int y2_4), (1, .int y1_4), (0, .ref (a 0))]) hx hb dX5_countLikePairs_12 rfl hl (by decide) rfl (fun ls hl => ?_)
        have lp13 : ∀ (nn : Nat) (y3_13 : Int32) (y1_13 : Int32) (H : Heap) (locs : List Loc), 0 ≤ y3_13 → gap 4 y3_13 < nn → Bd κ A s (cw κ a r q f) H locs → ∀ ls : Array Slot, lv_has ls 4 [(3, .int y3_13), (2, .int y2_4), (1, .int y1_13), (0, .ref (a 0))] → W p l e (Rm 3 67 0 0) s m args below meth c H locs 0 0 Q (F0 m 13 ls []) := by
          intro nn
          induction nn with
          | zero => intro y3_13 y1_13 H locs hn3_13 hμ; exact absurd hμ (Nat.not_lt_zero _)
          | succ nn ih13 =>
            intro y3_13 y1_13 H locs hn3_13 hμ13 hB ls hl
            refine lv_iload_n hx hb dX5_countLikePairs_13 rfl (lv_at hl 0 rfl) ?_
            refine lv_iconst (v := 4) hx hb dX5_countLikePairs_14 (by decide) ?_
            refine lv_icmp_ge (tgt := 45) hx hb dX5_countLikePairs_15 (by decide) (fun c28 => ?_) (fun c28 => ?_)
            · refine lv_iinc (v := y2_4 + 1) (lv' := [(2, .int (y2_4 + 1)), (3, .int y3_13), (1, .int y1_13), (0, .ref (a 0))]) hx hb dX5_countLikePairs_45 hl (k := 1) rfl rfl (by decide) rfl (fun ls hl => ?_)
              refine lv_goto (tgt := 4) hx hb dX5_countLikePairs_48 (by decide) ?_
              exact ih4 (y2_4 + 1) y1_13 _ _ (nn_step hn2_4 c21) (gap_step c21 hμ4) hB _ (lv_sub hl [0, 2, 3] rfl)
            · refine lv_aload_n hx hb dX5_countLikePairs_18 rfl (lv_at hl 3 rfl) ?_
              refine gf hX hB cw0 rfl in5 0 (by decide) wm_1_137 rfl rfl dX5_countLikePairs_19 ?_
              refine lv_iload_n hx hb dX5_countLikePairs_22 rfl (lv_at hl 1 rfl) ?_
              refine aaldG hX hB cw1 (in_of (N := 4) rfl hn2_4 c21) rfl dX5_countLikePairs_23 ?_
              refine lv_aload_n hx hb dX5_countLikePairs_24 rfl (lv_at hl 3 rfl) ?_
              refine gf hX hB cw0 rfl in5 0 (by decide) wm_1_137 rfl rfl dX5_countLikePairs_25 ?_
              refine lv_iload_n hx hb dX5_countLikePairs_28 rfl (lv_at hl 0 rfl) ?_
              refine aaldG hX hB cw1 (in_of (N := 4) rfl hn3_13 c28) rfl dX5_countLikePairs_29 ?_
              refine call_V (n := 1) (As := [.ref (a (6 + 2 * ((y3_13).toNatClampNeg)))]) (rest := []) hX hB (k_X3_isLike κ l a r q f ((y2_4).toNatClampNeg) ((y3_13).toNatClampNeg) (lt15 (clamp_lt (in_of (N := 4) rfl hn2_4 c21))) (lt15 (clamp_lt (in_of (N := 4) rfl hn3_13 c28)))) ⟨rfl, by decide, by decide, by decide +kernel⟩ wm_2_44 wm_2_45 wm_2_46 wm_1_2 wm_2_47 ⟨Nat.le_of_ble_eq_true rfl, Nat.le_of_ble_eq_true rfl⟩ ⟨Nat.le_of_ble_eq_true rfl, Nat.le_of_ble_eq_true rfl⟩ (cwG (i := (y2_4).toNatClampNeg) (lt15 (clamp_lt (in_of (N := 4) rfl hn2_4 c21)))) rfl rfl rfl hl.1 rfl (Nat.le_of_ble_eq_true rfl) dX5_countLikePairs_30 (fun o w' H locs hp hB => ?_)
              obtain ⟨x29, rfl, bx29, rfl⟩ := hp
              refine W.eq (g2 := F0 m 33 ls [.int x29]) rfl ?_
              refine lv_if_eq (tgt := 39) hx hb dX5_countLikePairs_33 (by decide) (fun c30 => ?_) (fun c30 => ?_)
              · refine lv_iinc (v := y3_13 + 1) (lv' := [(3, .int (y3_13 + 1)), (2, .int y2_4), (1, .int y1_13), (0, .ref (a 0))]) hx hb dX5_countLikePairs_39 hl (k := 0) rfl rfl (by decide) rfl (fun ls hl => ?_)
                refine lv_goto (tgt := 13) hx hb dX5_countLikePairs_42 (by decide) ?_
                exact ih13 (y3_13 + 1) y1_13 _ _ (nn_step hn3_13 c28) (gap_step c28 hμ13) hB _ hl
              · refine lv_iinc (v := y1_13 + 1) (lv' := [(1, .int (y1_13 + 1)), (3, .int y3_13), (2, .int y2_4), (0, .ref (a 0))]) hx hb dX5_countLikePairs_36 hl (k := 2) rfl rfl (by decide) rfl (fun ls hl => ?_)
                refine lv_iinc (v := y3_13 + 1) (lv' := [(3, .int (y3_13 + 1)), (1, .int (y1_13 + 1)), (2, .int y2_4), (0, .ref (a 0))]) hx hb dX5_countLikePairs_39 hl (k := 1) rfl rfl (by decide) rfl (fun ls hl => ?_)
                refine lv_goto (tgt := 13) hx hb dX5_countLikePairs_42 (by decide) ?_
                exact ih13 (y3_13 + 1) (y1_13 + 1) _ _ (nn_step hn3_13 c28) (gap_step c28 hμ13) hB _ (lv_sub hl [0, 2, 1, 3] rfl)
        exact lp13 _ (y2_4 + 1) y1_4 _ _ (nn_step hn2_4 c21) (Nat.lt_succ_self _) hB _ hl
  exact lp4 _ 0 0 _ _ (by decide) (Nat.lt_succ_self _) hB _ hl
set_option maxHeartbeats 4000000 in
set_option maxRecDepth 100000 in
theorem k_X5_countHouse (κ : Kt) (l : Launch) (a : Nat → Nat) (r q : Nat → Int32) (f : Nat → Nat → Int64) (p0 : Int32)  : CM κ l yX5_countHouse cX5_countHouse 2 (some .int) 4 90 0 0 [.ref (a 0), .int p0] (cw κ a r q f) (fun o w' => ∃ x : Int32, o = some (.int x) ∧ w' = cw κ a r q f) := by
  refine CM_begin (plainFor_of_name (by decide)) (Nat.le_of_ble_eq_true rfl) ?_
  intro p e s m args below meth c A Q hX hnm hA3 hQ hB ls hl
  have hx := hX.1.1
  have hb := hX.1.2.1
  have hl : lv_has ls 2 [(0, .ref (a 0)), (1, .int p0)] := hl
  refine lv_iload_n hx hb dX5_countHouse_0 rfl (lv_at hl 1 rfl) ?_
  refine lv_if_ne (tgt := 9) hx hb dX5_countHouse_1 (by decide) (fun c1 => ?_) (fun c1 => ?_)
  · refine lv_iload_n hx hb dX5_countHouse_9 rfl (lv_at hl 1 rfl) ?_
    refine lv_iconst (v := 1) hx hb dX5_countHouse_10 (by decide) ?_
    refine lv_icmp_ne (tgt := 19) hx hb dX5_countHouse_11 (by decide) (fun c2 => ?_) (fun c2 => ?_)
    · refine lv_iload_n hx hb dX5_countHouse_19 rfl (lv_at hl 1 rfl) ?_
      refine lv_iconst (v := 2) hx hb dX5_countHouse_20 (by decide) ?_
      refine lv_icmp_ne (tgt := 31) hx hb dX5_countHouse_21 (by decide) (fun c3 => ?_) (fun c3 => ?_)
      · refine lv_aload_n hx hb dX5_countHouse_31 rfl (lv_at hl 0 rfl) ?_
        refine call_V (n := 0) (As := []) (rest := []) hX hB (k_X5_countLikePairs κ l a r q f) ⟨rfl, by decide, by decide, by decide +kernel⟩ wm_2_139 wm_2_141 wp_16 wm_1_1 wm_2_142 ⟨Nat.le_of_ble_eq_true rfl, Nat.le_of_ble_eq_true rfl⟩ ⟨Nat.le_of_ble_eq_true rfl, Nat.le_of_ble_eq_true rfl⟩ cw0 rfl rfl rfl hl.1 rfl (Nat.le_of_ble_eq_true rfl) dX5_countHouse_32 (fun o w' H locs hp hB => ?_)
        obtain ⟨x4, rfl, rfl⟩ := hp
        refine W.eq (g2 := F0 m 35 ls [.int x4]) rfl ?_
        rw [← hQ]
        exact end_i hX hB hA3 rfl rfl ⟨x4, rfl, rfl⟩ (Nat.le_of_ble_eq_true rfl) (Nat.le_of_ble_eq_true rfl) dX5_countHouse_35
      · refine lv_aload_n hx hb dX5_countHouse_24 rfl (lv_at hl 0 rfl) ?_
        refine gf hX hB cw0 rfl in5 9 (by decide) wm_1_146 rfl rfl dX5_countHouse_25 ?_
        refine lv_goto (tgt := 35) hx hb dX5_countHouse_28 (by decide) ?_
        rw [← hQ]
        exact end_i hX hB hA3 rfl rfl ⟨(q 4), rfl, rfl⟩ (Nat.le_of_ble_eq_true rfl) (Nat.le_of_ble_eq_true rfl) dX5_countHouse_35
    · refine lv_aload_n hx hb dX5_countHouse_14 rfl (lv_at hl 0 rfl) ?_
      refine gf hX hB cw0 rfl in5 8 (by decide) wm_1_145 rfl rfl dX5_countHouse_15 ?_
      rw [← hQ]
      exact end_i hX hB hA3 rfl rfl ⟨(q 3), rfl, rfl⟩ (Nat.le_of_ble_eq_true rfl) (Nat.le_of_ble_eq_true rfl) dX5_countHouse_18
  · refine lv_aload_n hx hb dX5_countHouse_4 rfl (lv_at hl 0 rfl) ?_
    refine gf hX hB cw0 rfl in5 7 (by decide) wm_1_144 rfl rfl dX5_countHouse_5 ?_
    rw [← hQ]
    exact end_i hX hB hA3 rfl rfl ⟨(q 2), rfl, rfl⟩ (Nat.le_of_ble_eq_true rfl) (Nat.le_of_ble_eq_true rfl) dX5_countHouse_8
set_option maxHeartbeats 4000000 in
set_option maxRecDepth 100000 in
theorem k_X5_isSoundByRowSteps (κ : Kt) (l : Launch) (a : Nat → Nat) (r q : Nat → Int32) (f : Nat → Nat → Int64) (i : Nat) (hi : i < 15) (hok : okr r) : CM κ l yX5_isSoundByRowSteps cX5_isSoundByRowSteps 2 (some .boolean) 7 193 0 0 [.ref (a 0), .ref (a (6 + 2 * i))] (cw κ a r q f) (fun o w' => ∃ x : Int32, ∃ (r' q' : Nat → Int32) (f' : Nat → Nat → Int64), o = some (.int x) ∧ (x = 0 ∨ x = 1) ∧ (okr r → okr r') ∧ q' 4 = q 4 ∧ w' = cw κ a r' q' f') := by
  refine CM_begin (plainFor_of_name (by decide)) (Nat.le_of_ble_eq_true rfl) ?_
  intro p e s m args below meth c A Q hX hnm hA3 hQ hB ls hl
  have hx := hX.1.1
  have hb := hX.1.2.1
  have hl : lv_has ls 2 [(0, .ref (a 0)), (1, .ref (a (6 + 2 * i)))] := hl
  refine lv_aload_n hx hb dX5_isSoundByRowSteps_0 rfl (lv_at hl 0 rfl) ?_
  refine gf hX hB cw0 rfl in5 2 (by decide) wm_1_139 rfl rfl dX5_isSoundByRowSteps_1 ?_
  refine lv_aload_n hx hb dX5_isSoundByRowSteps_4 rfl (lv_at hl 0 rfl) ?_
  refine gf hX hB cw0 rfl in5 3 (by decide) wm_1_140 rfl rfl dX5_isSoundByRowSteps_5 ?_
  refine gfN hX hB cw2 rfl in4 1 (by decide) wn_1_77 rfl rfl dX5_isSoundByRowSteps_8 ?_
  refine lv_aload_n hx hb dX5_isSoundByRowSteps_11 rfl (lv_at hl 1 rfl) ?_
  refine call_V (n := 2) (As := [.ref (a 20), .ref (a (6 + 2 * i))]) (rest := []) hX hB (k_X3_becomeProduct κ l a r q f 5 7 i (by decide) (by decide) hi) ⟨rfl, by decide, by decide, by decide +kernel⟩ wm_2_40 wm_2_41 wm_2_42 wm_1_2 wm_2_43 ⟨Nat.le_of_ble_eq_true rfl, Nat.le_of_ble_eq_true rfl⟩ ⟨Nat.le_of_ble_eq_true rfl, Nat.le_of_ble_eq_true rfl⟩ (cwG (i := 5) (by decide)) rfl rfl rfl hl.1 rfl (Nat.le_of_ble_eq_true rfl) dX5_isSoundByRowSteps_12 (fun o w' H locs hp hB => ?_)
  obtain ⟨r1, q3, f5, rfl, ho2, hq4, rfl⟩ := hp
  refine W.eq (g2 := F0 m 15 ls []) rfl ?_
  refine lv_aload_n hx hb dX5_isSoundByRowSteps_15 rfl (lv_at hl 0 rfl) ?_
  refine gf hX hB cw0 rfl in5 2 (by decide) wm_1_139 rfl rfl dX5_isSoundByRowSteps_16 ?_
  refine lv_aload_n hx hb dX5_isSoundByRowSteps_19 rfl (lv_at hl 0 rfl) ?_
  refine gf hX hB cw0 rfl in5 3 (by decide) wm_1_140 rfl rfl dX5_isSoundByRowSteps_20 ?_
  refine gfN hX hB cw2 rfl in4 0 (by decide) wn_1_75 rfl rfl dX5_isSoundByRowSteps_23 ?_
  refine call_V (n := 1) (As := [.ref (a 18)]) (rest := []) hX hB (k_X3_isLike κ l a r1 q3 f5 5 6 (by decide) (by decide)) ⟨rfl, by decide, by decide, by decide +kernel⟩ wm_2_44 wm_2_45 wm_2_46 wm_1_2 wm_2_47 ⟨Nat.le_of_ble_eq_true rfl, Nat.le_of_ble_eq_true rfl⟩ ⟨Nat.le_of_ble_eq_true rfl, Nat.le_of_ble_eq_true rfl⟩ (cwG (i := 5) (by decide)) rfl rfl rfl hl.1 rfl (Nat.le_of_ble_eq_true rfl) dX5_isSoundByRowSteps_26 (fun o w' H locs hp hB => ?_)
  obtain ⟨x6, rfl, bx6, rfl⟩ := hp
  refine W.eq (g2 := F0 m 29 ls [.int x6]) rfl ?_
  refine lv_if_eq (tgt := 76) hx hb dX5_isSoundByRowSteps_29 (by decide) (fun c7 => ?_) (fun c7 => ?_)
  · refine lv_iconst (v := 0) hx hb dX5_isSoundByRowSteps_76 (by decide) ?_
    rw [← hQ]
    exact end_i hX hB hA3 rfl rfl ⟨0, r1, q3, f5, rfl, Or.inl rfl, (fun h => ho2 ((fun h => h) h)), (hq4.trans rfl), rfl⟩ (Nat.le_of_ble_eq_true rfl) (Nat.le_of_ble_eq_true rfl) dX5_isSoundByRowSteps_77
  · refine lv_aload_n hx hb dX5_isSoundByRowSteps_32 rfl (lv_at hl 1 rfl) ?_
    refine call_S (n := 1) (As := [.ref (a (6 + 2 * i))]) (rest := []) hX hB (k_X0_findRank κ l a r1 q3 f5 i hi ((fun h => ho2 ((fun h => h) h)) hok)) ⟨by decide, by decide, by decide +kernel⟩ wm_2_52 wm_2_53 wm_1_29 wm_2_54 ⟨Nat.le_of_ble_eq_true rfl, Nat.le_of_ble_eq_true rfl⟩ ⟨Nat.le_of_ble_eq_true rfl, Nat.le_of_ble_eq_true rfl⟩ rfl hl.1 rfl (Nat.le_of_ble_eq_true rfl) dX5_isSoundByRowSteps_33 (fun o w' H locs hp hB => ?_)
    obtain ⟨x8, rfl, rfl⟩ := hp
    refine W.eq (g2 := F0 m 36 ls [.int x8]) rfl ?_
    refine lv_aload_n hx hb dX5_isSoundByRowSteps_36 rfl (lv_at hl 0 rfl) ?_
    refine gf hX hB cw0 rfl in5 3 (by decide) wm_1_140 rfl rfl dX5_isSoundByRowSteps_37 ?_
    refine call_V (n := 0) (As := []) (rest := [.int x8]) hX hB (k_X4_countFilledRows κ l a r1 q3 f5) ⟨rfl, by decide, by decide, by decide +kernel⟩ wm_2_63 wm_2_64 wm_2_65 wm_1_3 wm_2_66 ⟨Nat.le_of_ble_eq_true rfl, Nat.le_of_ble_eq_true rfl⟩ ⟨Nat.le_of_ble_eq_true rfl, Nat.le_of_ble_eq_true rfl⟩ cw2 rfl rfl rfl hl.1 rfl (Nat.le_of_ble_eq_true rfl) dX5_isSoundByRowSteps_40 (fun o w' H locs hp hB => ?_)
    obtain ⟨x9, rfl, rfl⟩ := hp
    refine W.eq (g2 := F0 m 43 ls [.int x9, .int x8]) rfl ?_
    refine lv_icmp_ne (tgt := 76) hx hb dX5_isSoundByRowSteps_43 (by decide) (fun c10 => ?_) (fun c10 => ?_)
    · refine lv_iconst (v := 0) hx hb dX5_isSoundByRowSteps_76 (by decide) ?_
      rw [← hQ]
      exact end_i hX hB hA3 rfl rfl ⟨0, r1, q3, f5, rfl, Or.inl rfl, (fun h => ho2 ((fun h => h) h)), (hq4.trans rfl), rfl⟩ (Nat.le_of_ble_eq_true rfl) (Nat.le_of_ble_eq_true rfl) dX5_isSoundByRowSteps_77
    · refine lv_aload_n hx hb dX5_isSoundByRowSteps_46 rfl (lv_at hl 1 rfl) ?_
      refine gfN hX hB (cwG (i := i) hi) rfl in3 1 (by decide) wn_1_51 rfl rfl dX5_isSoundByRowSteps_47 ?_
      refine lv_aload_n hx hb dX5_isSoundByRowSteps_50 rfl (lv_at hl 1 rfl) ?_
      refine gfN hX hB (cwG (i := i) hi) rfl in3 2 (by decide) wn_1_57 rfl rfl dX5_isSoundByRowSteps_51 ?_
      refine lv_icmp_ne (tgt := 72) hx hb dX5_isSoundByRowSteps_54 (by decide) (fun c11 => ?_) (fun c11 => ?_)
      · refine lv_iconst (v := 1) hx hb dX5_isSoundByRowSteps_72 (by decide) ?_
        refine lv_goto (tgt := 77) hx hb dX5_isSoundByRowSteps_73 (by decide) ?_
        rw [← hQ]
        exact end_i hX hB hA3 rfl rfl ⟨1, r1, q3, f5, rfl, Or.inr rfl, (fun h => ho2 ((fun h => h) h)), (hq4.trans rfl), rfl⟩ (Nat.le_of_ble_eq_true rfl) (Nat.le_of_ble_eq_true rfl) dX5_isSoundByRowSteps_77
      · refine lv_aload_n hx hb dX5_isSoundByRowSteps_57 rfl (lv_at hl 1 rfl) ?_
        refine call_S (n := 1) (As := [.ref (a (6 + 2 * i))]) (rest := []) hX hB (k_X0_byFirstRow κ l a r1 q3 f5 i hi) ⟨by decide, by decide, by decide +kernel⟩ wm_1_180 wm_1_181 wm_1_29 wm_1_182 ⟨Nat.le_of_ble_eq_true rfl, Nat.le_of_ble_eq_true rfl⟩ ⟨Nat.le_of_ble_eq_true rfl, Nat.le_of_ble_eq_true rfl⟩ rfl hl.1 rfl (Nat.le_of_ble_eq_true rfl) dX5_isSoundByRowSteps_58 (fun o w' H locs hp hB => ?_)
        obtain ⟨x12, rfl, rfl⟩ := hp
        refine W.eq (g2 := F0 m 61 ls [.long x12]) rfl ?_
        refine lv_aload_n hx hb dX5_isSoundByRowSteps_61 rfl (lv_at hl 0 rfl) ?_
        refine gf hX hB cw0 rfl in5 3 (by decide) wm_1_140 rfl rfl dX5_isSoundByRowSteps_62 ?_
        refine call_V (n := 0) (As := []) (rest := [.long x12]) hX hB (k_X4_findDeterminant κ l a r1 q3 f5) ⟨rfl, by decide, by decide, by decide +kernel⟩ wm_2_67 wm_2_68 wm_2_69 wm_1_3 wm_2_70 ⟨Nat.le_of_ble_eq_true rfl, Nat.le_of_ble_eq_true rfl⟩ ⟨Nat.le_of_ble_eq_true rfl, Nat.le_of_ble_eq_true rfl⟩ cw2 rfl rfl rfl hl.1 rfl (Nat.le_of_ble_eq_true rfl) dX5_isSoundByRowSteps_65 (fun o w' H locs hp hB => ?_)
        obtain ⟨x13, rfl, rfl⟩ := hp
        refine W.eq (g2 := F0 m 68 ls [.long x13, .long x12]) rfl ?_
        refine W.lcmp hx hb dX5_isSoundByRowSteps_68 ?_
        refine lv_if_ne (tgt := 76) hx hb dX5_isSoundByRowSteps_69 (by decide) (fun c14 => ?_) (fun c14 => ?_)
        · refine lv_iconst (v := 0) hx hb dX5_isSoundByRowSteps_76 (by decide) ?_
          rw [← hQ]
          exact end_i hX hB hA3 rfl rfl ⟨0, r1, q3, f5, rfl, Or.inl rfl, (fun h => ho2 ((fun h => h) h)), (hq4.trans rfl), rfl⟩ (Nat.le_of_ble_eq_true rfl) (Nat.le_of_ble_eq_true rfl) dX5_isSoundByRowSteps_77
        · refine lv_iconst (v := 1) hx hb dX5_isSoundByRowSteps_72 (by decide) ?_
          refine lv_goto (tgt := 77) hx hb dX5_isSoundByRowSteps_73 (by decide) ?_
          rw [← hQ]
          exact end_i hX hB hA3 rfl rfl ⟨1, r1, q3, f5, rfl, Or.inr rfl, (fun h => ho2 ((fun h => h) h)), (hq4.trans rfl), rfl⟩ (Nat.le_of_ble_eq_true rfl) (Nat.le_of_ble_eq_true rfl) dX5_isSoundByRowSteps_77
set_option maxHeartbeats 4000000 in
set_option maxRecDepth 100000 in
theorem k_X5_isSoundBySteps (κ : Kt) (l : Launch) (a : Nat → Nat) (r q : Nat → Int32) (f : Nat → Nat → Int64) (i : Nat) (hi : i < 15) : CM κ l yX5_isSoundBySteps cX5_isSoundBySteps 5 (some .boolean) 6 171 0 0 [.ref (a 0), .ref (a (6 + 2 * i))] (cw κ a r q f) (fun o w' => ∃ x : Int32, ∃ (r' q' : Nat → Int32) (f' : Nat → Nat → Int64), o = some (.int x) ∧ (x = 0 ∨ x = 1) ∧ (okr r → okr r') ∧ q' 4 = q 4 ∧ w' = cw κ a r' q' f') := by
  refine CM_begin (plainFor_of_name (by decide)) (Nat.le_of_ble_eq_true rfl) ?_
  intro p e s m args below meth c A Q hX hnm hA3 hQ hB ls hl
  have hx := hX.1.1
  have hb := hX.1.2.1
  have hl : lv_has ls 5 [(0, .ref (a 0)), (1, .ref (a (6 + 2 * i)))] := hl
  refine lv_aload_n hx hb dX5_isSoundBySteps_0 rfl (lv_at hl 0 rfl) ?_
  refine gf hX hB cw0 rfl in5 1 (by decide) wm_1_138 rfl rfl dX5_isSoundBySteps_1 ?_
  refine lv_aload_n hx hb dX5_isSoundBySteps_4 rfl (lv_at hl 0 rfl) ?_
  refine gf hX hB cw0 rfl in5 4 (by decide) wm_1_141 rfl rfl dX5_isSoundBySteps_5 ?_
  refine gfN hX hB cw3 rfl in1 1 (by decide) wn_1_100 rfl rfl dX5_isSoundBySteps_8 ?_
  refine lv_aload_n hx hb dX5_isSoundBySteps_11 rfl (lv_at hl 1 rfl) ?_
  refine call_V (n := 2) (As := [.ref (a 24), .ref (a (6 + 2 * i))]) (rest := []) hX hB (k_X3_becomeProduct κ l a r q f 4 9 i (by decide) (by decide) hi) ⟨rfl, by decide, by decide, by decide +kernel⟩ wm_2_40 wm_2_41 wm_2_42 wm_1_2 wm_2_43 ⟨Nat.le_of_ble_eq_true rfl, Nat.le_of_ble_eq_true rfl⟩ ⟨Nat.le_of_ble_eq_true rfl, Nat.le_of_ble_eq_true rfl⟩ (cwG (i := 4) (by decide)) rfl rfl rfl hl.1 rfl (Nat.le_of_ble_eq_true rfl) dX5_isSoundBySteps_12 (fun o w' H locs hp hB => ?_)
  obtain ⟨r1, q3, f5, rfl, ho2, hq4, rfl⟩ := hp
  refine W.eq (g2 := F0 m 15 ls []) rfl ?_
  refine lv_aload_n hx hb dX5_isSoundBySteps_15 rfl (lv_at hl 0 rfl) ?_
  refine gf hX hB cw0 rfl in5 2 (by decide) wm_1_139 rfl rfl dX5_isSoundBySteps_16 ?_
  refine lv_aload_n hx hb dX5_isSoundBySteps_19 rfl (lv_at hl 0 rfl) ?_
  refine gf hX hB cw0 rfl in5 1 (by decide) wm_1_138 rfl rfl dX5_isSoundBySteps_20 ?_
  refine lv_aload_n hx hb dX5_isSoundBySteps_23 rfl (lv_at hl 0 rfl) ?_
  refine gf hX hB cw0 rfl in5 4 (by decide) wm_1_141 rfl rfl dX5_isSoundBySteps_24 ?_
  refine gfN hX hB cw3 rfl in1 2 (by decide) wn_1_103 rfl rfl dX5_isSoundBySteps_27 ?_
  refine call_V (n := 2) (As := [.ref (a 14), .ref (a 26)]) (rest := []) hX hB (k_X3_becomeProduct κ l a r1 q3 f5 5 4 10 (by decide) (by decide) (by decide)) ⟨rfl, by decide, by decide, by decide +kernel⟩ wm_2_40 wm_2_41 wm_2_42 wm_1_2 wm_2_43 ⟨Nat.le_of_ble_eq_true rfl, Nat.le_of_ble_eq_true rfl⟩ ⟨Nat.le_of_ble_eq_true rfl, Nat.le_of_ble_eq_true rfl⟩ (cwG (i := 5) (by decide)) rfl rfl rfl hl.1 rfl (Nat.le_of_ble_eq_true rfl) dX5_isSoundBySteps_30 (fun o w' H locs hp hB => ?_)
  obtain ⟨r6, q8, f10, rfl, ho7, hq9, rfl⟩ := hp
  refine W.eq (g2 := F0 m 33 ls []) rfl ?_
  refine lv_aload_n hx hb dX5_isSoundBySteps_33 rfl (lv_at hl 0 rfl) ?_
  refine gf hX hB cw0 rfl in5 2 (by decide) wm_1_139 rfl rfl dX5_isSoundBySteps_34 ?_
  refine lv_aload_n hx hb dX5_isSoundBySteps_37 rfl (lv_at hl 0 rfl) ?_
  refine gf hX hB cw0 rfl in5 4 (by decide) wm_1_141 rfl rfl dX5_isSoundBySteps_38 ?_
  refine gfN hX hB cw3 rfl in1 0 (by decide) wn_1_97 rfl rfl dX5_isSoundBySteps_41 ?_
  refine call_V (n := 1) (As := [.ref (a 22)]) (rest := []) hX hB (k_X3_isLike κ l a r6 q8 f10 5 8 (by decide) (by decide)) ⟨rfl, by decide, by decide, by decide +kernel⟩ wm_2_44 wm_2_45 wm_2_46 wm_1_2 wm_2_47 ⟨Nat.le_of_ble_eq_true rfl, Nat.le_of_ble_eq_true rfl⟩ ⟨Nat.le_of_ble_eq_true rfl, Nat.le_of_ble_eq_true rfl⟩ (cwG (i := 5) (by decide)) rfl rfl rfl hl.1 rfl (Nat.le_of_ble_eq_true rfl) dX5_isSoundBySteps_44 (fun o w' H locs hp hB => ?_)
  obtain ⟨x11, rfl, bx11, rfl⟩ := hp
  refine W.eq (g2 := F0 m 47 ls [.int x11]) rfl ?_
  refine lv_if_ne (tgt := 52) hx hb dX5_isSoundBySteps_47 (by decide) (fun c12 => ?_) (fun c12 => ?_)
  · refine lv_iconst (v := 0) hx hb dX5_isSoundBySteps_52 (by decide) ?_
    refine lv_istore_n (lv' := [(2, .int 0), (0, .ref (a 0)), (1, .ref (a (6 + 2 * i)))]) hx hb dX5_isSoundBySteps_53 rfl hl (by decide) rfl (fun ls hl => ?_)
    have lp54 : ∀ (nn : Nat) (y2_54 : Int32) (H : Heap) (locs : List Loc), gap (r6 (2 * i)) y2_54 < nn → Bd κ A s (cw κ a r6 q8 f10) H locs → ∀ ls : Array Slot, lv_has ls 5 [(2, .int y2_54), (0, .ref (a 0)), (1, .ref (a (6 + 2 * i)))] → W p l e (Rm 6 171 0 0) s m args below meth c H locs 0 0 Q (F0 m 54 ls []) := by
      intro nn
      induction nn with
      | zero => intro y2_54 H locs hμ; exact absurd hμ (Nat.not_lt_zero _)
      | succ nn ih54 =>
        intro y2_54 H locs hμ54 hB ls hl
        refine lv_iload_n hx hb dX5_isSoundBySteps_54 rfl (lv_at hl 0 rfl) ?_
        refine lv_aload_n hx hb dX5_isSoundBySteps_55 rfl (lv_at hl 2 rfl) ?_
        refine gfN hX hB (cwG (i := i) hi) rfl in3 1 (by decide) wn_1_51 rfl rfl dX5_isSoundBySteps_56 ?_
        refine lv_icmp_ge (tgt := 109) hx hb dX5_isSoundBySteps_59 (by decide) (fun c25 => ?_) (fun c25 => ?_)
        · refine lv_iconst (v := 1) hx hb dX5_isSoundBySteps_109 (by decide) ?_
          rw [← hQ]
          exact end_i hX hB hA3 rfl rfl ⟨1, r6, q8, f10, rfl, Or.inr rfl, (fun h => ho7 ((fun h => ho2 ((fun h => h) h)) h)), (hq9.trans (hq4.trans rfl)), rfl⟩ (Nat.le_of_ble_eq_true rfl) (Nat.le_of_ble_eq_true rfl) dX5_isSoundBySteps_110
        · refine lv_iload_n hx hb dX5_isSoundBySteps_62 rfl (lv_at hl 0 rfl) ?_
          refine lv_aload_n hx hb dX5_isSoundBySteps_63 rfl (lv_at hl 2 rfl) ?_
          refine gfN hX hB (cwG (i := i) hi) rfl in3 2 (by decide) wn_1_57 rfl rfl dX5_isSoundBySteps_64 ?_
          refine lv_icmp_ge (tgt := 109) hx hb dX5_isSoundBySteps_67 (by decide) (fun c26 => ?_) (fun c26 => ?_)
          · refine lv_iconst (v := 1) hx hb dX5_isSoundBySteps_109 (by decide) ?_
            rw [← hQ]
            exact end_i hX hB hA3 rfl rfl ⟨1, r6, q8, f10, rfl, Or.inr rfl, (fun h => ho7 ((fun h => ho2 ((fun h => h) h)) h)), (hq9.trans (hq4.trans rfl)), rfl⟩ (Nat.le_of_ble_eq_true rfl) (Nat.le_of_ble_eq_true rfl) dX5_isSoundBySteps_110
          · refine lv_aload_n hx hb dX5_isSoundBySteps_70 rfl (lv_at hl 2 rfl) ?_
            refine lv_iload_n hx hb dX5_isSoundBySteps_71 rfl (lv_at hl 0 rfl) ?_
            refine call_S (n := 2) (As := [.ref (a (6 + 2 * i)), .int y2_54]) (rest := []) hX hB (k_X0_findDivisor κ l a r6 q8 f10 i y2_54 hi) ⟨by decide, by decide, by decide +kernel⟩ wm_2_122 wm_2_56 wm_1_29 wm_2_57 ⟨Nat.le_of_ble_eq_true rfl, Nat.le_of_ble_eq_true rfl⟩ ⟨Nat.le_of_ble_eq_true rfl, Nat.le_of_ble_eq_true rfl⟩ rfl hl.1 rfl (Nat.le_of_ble_eq_true rfl) dX5_isSoundBySteps_72 (fun o w' H locs hp hB => ?_)
            obtain ⟨x27, rfl, rfl⟩ := hp
            refine W.eq (g2 := F0 m 75 ls [.long x27]) rfl ?_
            refine lv_lstore_n (lv' := [(3, .long x27), (2, .int y2_54), (0, .ref (a 0)), (1, .ref (a (6 + 2 * i)))]) hx hb dX5_isSoundBySteps_75 rfl hl (by decide) rfl (fun ls hl => ?_)
            refine lv_lload_n hx hb dX5_isSoundBySteps_76 rfl (lv_at hl 0 rfl) ?_
            refine lv_aload_n hx hb dX5_isSoundBySteps_77 rfl (lv_at hl 2 rfl) ?_
            refine gf hX hB cw0 rfl in5 4 (by decide) wm_1_141 rfl rfl dX5_isSoundBySteps_78 ?_
            refine gfN hX hB cw3 rfl in1 0 (by decide) wn_1_97 rfl rfl dX5_isSoundBySteps_81 ?_
            refine lv_iload_n hx hb dX5_isSoundBySteps_84 rfl (lv_at hl 1 rfl) ?_
            refine lv_iload_n hx hb dX5_isSoundBySteps_85 rfl (lv_at hl 1 rfl) ?_
            refine call_V (n := 2) (As := [.int y2_54, .int y2_54]) (rest := [.long x27]) hX hB (k_X3_get κ l a r6 q8 f10 8 y2_54 y2_54 (by decide)) ⟨rfl, by decide, by decide, by decide +kernel⟩ wm_2_123 wm_1_187 wm_1_188 wm_1_2 wm_1_189 ⟨Nat.le_of_ble_eq_true rfl, Nat.le_of_ble_eq_true rfl⟩ ⟨Nat.le_of_ble_eq_true rfl, Nat.le_of_ble_eq_true rfl⟩ (cwG (i := 8) (by decide)) rfl rfl rfl hl.1 rfl (Nat.le_of_ble_eq_true rfl) dX5_isSoundBySteps_86 (fun o w' H locs hp hB => ?_)
            obtain ⟨x28, rfl, rfl⟩ := hp
            refine W.eq (g2 := F0 m 89 ls [.long x28, .long x27]) rfl ?_
            refine lv_lmul hx hb dX5_isSoundBySteps_89 ?_
            refine lv_aload_n hx hb dX5_isSoundBySteps_90 rfl (lv_at hl 3 rfl) ?_
            refine lv_iload_n hx hb dX5_isSoundBySteps_91 rfl (lv_at hl 1 rfl) ?_
            refine lv_iconst (v := 1) hx hb dX5_isSoundBySteps_92 (by decide) ?_
            refine lv_iadd hx hb dX5_isSoundBySteps_93 ?_
            refine call_S (n := 2) (As := [.ref (a (6 + 2 * i)), .int (y2_54 + 1)]) (rest := [.long (x27 * x28)]) hX hB (k_X0_findDivisor κ l a r6 q8 f10 i (y2_54 + 1) hi) ⟨by decide, by decide, by decide +kernel⟩ wm_2_122 wm_2_56 wm_1_29 wm_2_57 ⟨Nat.le_of_ble_eq_true rfl, Nat.le_of_ble_eq_true rfl⟩ ⟨Nat.le_of_ble_eq_true rfl, Nat.le_of_ble_eq_true rfl⟩ rfl hl.1 rfl (Nat.le_of_ble_eq_true rfl) dX5_isSoundBySteps_94 (fun o w' H locs hp hB => ?_)
            obtain ⟨x29, rfl, rfl⟩ := hp
            refine W.eq (g2 := F0 m 97 ls [.long x29, .long (x27 * x28)]) rfl ?_
            refine W.lcmp hx hb dX5_isSoundBySteps_97 ?_
            refine lv_if_eq (tgt := 103) hx hb dX5_isSoundBySteps_98 (by decide) (fun c30 => ?_) (fun c30 => ?_)
            · refine lv_iinc (v := y2_54 + 1) (lv' := [(2, .int (y2_54 + 1)), (3, .long x27), (0, .ref (a 0)), (1, .ref (a (6 + 2 * i)))]) hx hb dX5_isSoundBySteps_103 hl (k := 1) rfl rfl (by decide) rfl (fun ls hl => ?_)
              refine lv_goto (tgt := 54) hx hb dX5_isSoundBySteps_106 (by decide) ?_
              exact ih54 (y2_54 + 1) _ _  (gap_step c25 hμ54) hB _ (lv_sub hl [0, 2, 3] rfl)
            · refine lv_iconst (v := 0) hx hb dX5_isSoundBySteps_101 (by decide) ?_
              rw [← hQ]
              exact end_i hX hB hA3 rfl rfl ⟨0, r6, q8, f10, rfl, Or.inl rfl, (fun h => ho7 ((fun h => ho2 ((fun h => h) h)) h)), (hq9.trans (hq4.trans rfl)), rfl⟩ (Nat.le_of_ble_eq_true rfl) (Nat.le_of_ble_eq_true rfl) dX5_isSoundBySteps_102
    exact lp54 _ 0 _ _  (Nat.lt_succ_self _) hB _ hl
  · refine lv_iconst (v := 0) hx hb dX5_isSoundBySteps_50 (by decide) ?_
    rw [← hQ]
    exact end_i hX hB hA3 rfl rfl ⟨0, r6, q8, f10, rfl, Or.inl rfl, (fun h => ho7 ((fun h => ho2 ((fun h => h) h)) h)), (hq9.trans (hq4.trans rfl)), rfl⟩ (Nat.le_of_ble_eq_true rfl) (Nat.le_of_ble_eq_true rfl) dX5_isSoundBySteps_51
set_option maxHeartbeats 4000000 in
set_option maxRecDepth 100000 in
theorem k_X5_isFirstSound (κ : Kt) (l : Launch) (a : Nat → Nat) (r q : Nat → Int32) (f : Nat → Nat → Int64) (hok : okr r) : CM κ l yX5_isFirstSound cX5_isFirstSound 2 (some .boolean) 8 214 0 0 [.ref (a 0)] (cw κ a r q f) (fun o w' => ∃ x : Int32, ∃ (r' q' : Nat → Int32) (f' : Nat → Nat → Int64), o = some (.int x) ∧ (x = 0 ∨ x = 1) ∧ (okr r → okr r') ∧ q' 4 = q 4 ∧ w' = cw κ a r' q' f') := by
  refine CM_begin (plainFor_of_name (by decide)) (Nat.le_of_ble_eq_true rfl) ?_
  intro p e s m args below meth c A Q hX hnm hA3 hQ hB ls hl
  have hx := hX.1.1
  have hb := hX.1.2.1
  have hl : lv_has ls 2 [(0, .ref (a 0))] := hl
  refine lv_aload_n hx hb dX5_isFirstSound_0 rfl (lv_at hl 0 rfl) ?_
  refine gf hX hB cw0 rfl in5 0 (by decide) wm_1_137 rfl rfl dX5_isFirstSound_1 ?_
  refine lv_iconst (v := 0) hx hb dX5_isFirstSound_4 (by decide) ?_
  refine aaldG hX hB cw1 (vp_in_iff.mpr ⟨by decide, by decide⟩) (rfl : (fun j => some (a (6 + 2 * j))) (Int32.toNatClampNeg 0) = some (a 6)) dX5_isFirstSound_5 ?_
  refine lv_astore_n (lv' := [(1, .ref (a 6)), (0, .ref (a 0))]) hx hb dX5_isFirstSound_6 rfl hl (by decide) rfl (fun ls hl => ?_)
  refine lv_aload_n hx hb dX5_isFirstSound_7 rfl (lv_at hl 0 rfl) ?_
  refine gfN hX hB (cwG (i := 0) (by decide)) rfl in3 1 (by decide) wn_1_51 rfl rfl dX5_isFirstSound_8 ?_
  refine lv_iconst (v := 3) hx hb dX5_isFirstSound_11 (by decide) ?_
  refine lv_icmp_gt (tgt := 23) hx hb dX5_isFirstSound_12 (by decide) (fun c1 => ?_) (fun c1 => ?_)
  · refine lv_iconst (v := 1) hx hb dX5_isFirstSound_23 (by decide) ?_
    rw [← hQ]
    exact end_i hX hB hA3 rfl rfl ⟨1, r, q, f, rfl, Or.inr rfl, (fun h => h), rfl, rfl⟩ (Nat.le_of_ble_eq_true rfl) (Nat.le_of_ble_eq_true rfl) dX5_isFirstSound_24
  · refine lv_aload_n hx hb dX5_isFirstSound_15 rfl (lv_at hl 0 rfl) ?_
    refine gfN hX hB (cwG (i := 0) (by decide)) rfl in3 2 (by decide) wn_1_57 rfl rfl dX5_isFirstSound_16 ?_
    refine lv_iconst (v := 3) hx hb dX5_isFirstSound_19 (by decide) ?_
    refine lv_icmp_le (tgt := 25) hx hb dX5_isFirstSound_20 (by decide) (fun c2 => ?_) (fun c2 => ?_)
    · refine lv_aload_n hx hb dX5_isFirstSound_25 rfl (lv_at hl 0 rfl) ?_
      refine gfN hX hB (cwG (i := 0) (by decide)) rfl in3 1 (by decide) wn_1_51 rfl rfl dX5_isFirstSound_26 ?_
      refine lv_aload_n hx hb dX5_isFirstSound_29 rfl (lv_at hl 0 rfl) ?_
      refine gfN hX hB (cwG (i := 0) (by decide)) rfl in3 2 (by decide) wn_1_57 rfl rfl dX5_isFirstSound_30 ?_
      refine lv_icmp_ne (tgt := 52) hx hb dX5_isFirstSound_33 (by decide) (fun c3 => ?_) (fun c3 => ?_)
      · refine lv_aload_n hx hb dX5_isFirstSound_52 rfl (lv_at hl 1 rfl) ?_
        refine gf hX hB cw0 rfl in5 3 (by decide) wm_1_140 rfl rfl dX5_isFirstSound_53 ?_
        refine lv_aload_n hx hb dX5_isFirstSound_56 rfl (lv_at hl 0 rfl) ?_
        refine call_V (n := 1) (As := [.ref (a 6)]) (rest := []) hX hB (k_X4_walk κ l a r q f 0 (by decide)) ⟨rfl, by decide, by decide, by decide +kernel⟩ wm_1_200 wm_1_201 wm_1_202 wm_1_3 wm_1_203 ⟨Nat.le_of_ble_eq_true rfl, Nat.le_of_ble_eq_true rfl⟩ ⟨Nat.le_of_ble_eq_true rfl, Nat.le_of_ble_eq_true rfl⟩ cw2 rfl rfl rfl hl.1 rfl (Nat.le_of_ble_eq_true rfl) dX5_isFirstSound_57 (fun o w' H locs hp hB => ?_)
        obtain ⟨r4, q6, f8, rfl, ho5, hq7, rfl⟩ := hp
        refine W.eq (g2 := F0 m 60 ls []) rfl ?_
        refine lv_aload_n hx hb dX5_isFirstSound_60 rfl (lv_at hl 1 rfl) ?_
        refine gf hX hB cw0 rfl in5 3 (by decide) wm_1_140 rfl rfl dX5_isFirstSound_61 ?_
        refine gfN hX hB cw2 rfl in4 2 (by decide) wn_1_79 rfl rfl dX5_isFirstSound_64 ?_
        refine lv_if_ne (tgt := 80) hx hb dX5_isFirstSound_67 (by decide) (fun c9 => ?_) (fun c9 => ?_)
        · refine lv_aload_n hx hb dX5_isFirstSound_80 rfl (lv_at hl 1 rfl) ?_
          refine gf hX hB cw0 rfl in5 4 (by decide) wm_1_141 rfl rfl dX5_isFirstSound_81 ?_
          refine lv_aload_n hx hb dX5_isFirstSound_84 rfl (lv_at hl 0 rfl) ?_
          refine call_V (n := 1) (As := [.ref (a 6)]) (rest := []) hX hB (k_X1_walk κ l a r4 q6 f8 0 (by decide)) ⟨rfl, by decide, by decide, by decide +kernel⟩ wm_2_72 wm_2_73 wm_2_74 wm_1_4 wm_2_75 ⟨Nat.le_of_ble_eq_true rfl, Nat.le_of_ble_eq_true rfl⟩ ⟨Nat.le_of_ble_eq_true rfl, Nat.le_of_ble_eq_true rfl⟩ cw3 rfl rfl rfl hl.1 rfl (Nat.le_of_ble_eq_true rfl) dX5_isFirstSound_85 (fun o w' H locs hp hB => ?_)
          obtain ⟨r10, q12, f14, rfl, ho11, hq13, rfl⟩ := hp
          refine W.eq (g2 := F0 m 88 ls []) rfl ?_
          refine lv_aload_n hx hb dX5_isFirstSound_88 rfl (lv_at hl 1 rfl) ?_
          refine gf hX hB cw0 rfl in5 4 (by decide) wm_1_141 rfl rfl dX5_isFirstSound_89 ?_
          refine gfN hX hB cw3 rfl in1 3 (by decide) wn_1_105 rfl rfl dX5_isFirstSound_92 ?_
          refine lv_if_ne (tgt := 106) hx hb dX5_isFirstSound_95 (by decide) (fun c15 => ?_) (fun c15 => ?_)
          · refine lv_iconst (v := 1) hx hb dX5_isFirstSound_106 (by decide) ?_
            refine lv_goto (tgt := 111) hx hb dX5_isFirstSound_107 (by decide) ?_
            rw [← hQ]
            exact end_i hX hB hA3 rfl rfl ⟨1, r10, q12, f14, rfl, Or.inr rfl, (fun h => ho11 ((fun h => ho5 ((fun h => h) h)) h)), (hq13.trans (hq7.trans rfl)), rfl⟩ (Nat.le_of_ble_eq_true rfl) (Nat.le_of_ble_eq_true rfl) dX5_isFirstSound_111
          · refine lv_aload_n hx hb dX5_isFirstSound_98 rfl (lv_at hl 1 rfl) ?_
            refine lv_aload_n hx hb dX5_isFirstSound_99 rfl (lv_at hl 0 rfl) ?_
            refine call_V (n := 1) (As := [.ref (a 6)]) (rest := []) hX hB (k_X5_isSoundBySteps κ l a r10 q12 f14 0 (by decide)) ⟨rfl, by decide, by decide, by decide +kernel⟩ wm_2_118 wm_2_120 wp_14 wm_1_1 wm_2_121 ⟨Nat.le_of_ble_eq_true rfl, Nat.le_of_ble_eq_true rfl⟩ ⟨Nat.le_of_ble_eq_true rfl, Nat.le_of_ble_eq_true rfl⟩ cw0 rfl rfl rfl hl.1 rfl (Nat.le_of_ble_eq_true rfl) dX5_isFirstSound_100 (fun o w' H locs hp hB => ?_)
            obtain ⟨x16, r17, q19, f21, rfl, bx16, ho18, hq20, rfl⟩ := hp
            refine W.eq (g2 := F0 m 103 ls [.int x16]) rfl ?_
            refine lv_if_eq (tgt := 110) hx hb dX5_isFirstSound_103 (by decide) (fun c22 => ?_) (fun c22 => ?_)
            · refine lv_iconst (v := 0) hx hb dX5_isFirstSound_110 (by decide) ?_
              rw [← hQ]
              exact end_i hX hB hA3 rfl rfl ⟨0, r17, q19, f21, rfl, Or.inl rfl, (fun h => ho18 ((fun h => ho11 ((fun h => ho5 ((fun h => h) h)) h)) h)), (hq20.trans (hq13.trans (hq7.trans rfl))), rfl⟩ (Nat.le_of_ble_eq_true rfl) (Nat.le_of_ble_eq_true rfl) dX5_isFirstSound_111
            · refine lv_iconst (v := 1) hx hb dX5_isFirstSound_106 (by decide) ?_
              refine lv_goto (tgt := 111) hx hb dX5_isFirstSound_107 (by decide) ?_
              rw [← hQ]
              exact end_i hX hB hA3 rfl rfl ⟨1, r17, q19, f21, rfl, Or.inr rfl, (fun h => ho18 ((fun h => ho11 ((fun h => ho5 ((fun h => h) h)) h)) h)), (hq20.trans (hq13.trans (hq7.trans rfl))), rfl⟩ (Nat.le_of_ble_eq_true rfl) (Nat.le_of_ble_eq_true rfl) dX5_isFirstSound_111
        · refine lv_aload_n hx hb dX5_isFirstSound_70 rfl (lv_at hl 1 rfl) ?_
          refine lv_aload_n hx hb dX5_isFirstSound_71 rfl (lv_at hl 0 rfl) ?_
          refine call_V (n := 1) (As := [.ref (a 6)]) (rest := []) hX hB (k_X5_isSoundByRowSteps κ l a r4 q6 f8 0 (by decide) ((fun h => ho5 ((fun h => h) h)) hok)) ⟨rfl, by decide, by decide, by decide +kernel⟩ wm_2_36 wm_2_38 wp_6 wm_1_1 wm_2_39 ⟨Nat.le_of_ble_eq_true rfl, Nat.le_of_ble_eq_true rfl⟩ ⟨Nat.le_of_ble_eq_true rfl, Nat.le_of_ble_eq_true rfl⟩ cw0 rfl rfl rfl hl.1 rfl (Nat.le_of_ble_eq_true rfl) dX5_isFirstSound_72 (fun o w' H locs hp hB => ?_)
          obtain ⟨x23, r24, q26, f28, rfl, bx23, ho25, hq27, rfl⟩ := hp
          refine W.eq (g2 := F0 m 75 ls [.int x23]) rfl ?_
          refine lv_if_ne (tgt := 80) hx hb dX5_isFirstSound_75 (by decide) (fun c29 => ?_) (fun c29 => ?_)
          · refine lv_aload_n hx hb dX5_isFirstSound_80 rfl (lv_at hl 1 rfl) ?_
            refine gf hX hB cw0 rfl in5 4 (by decide) wm_1_141 rfl rfl dX5_isFirstSound_81 ?_
            refine lv_aload_n hx hb dX5_isFirstSound_84 rfl (lv_at hl 0 rfl) ?_
            refine call_V (n := 1) (As := [.ref (a 6)]) (rest := []) hX hB (k_X1_walk κ l a r24 q26 f28 0 (by decide)) ⟨rfl, by decide, by decide, by decide +kernel⟩ wm_2_72 wm_2_73 wm_2_74 wm_1_4 wm_2_75 ⟨Nat.le_of_ble_eq_true rfl, Nat.le_of_ble_eq_true rfl⟩ ⟨Nat.le_of_ble_eq_true rfl, Nat.le_of_ble_eq_true rfl⟩ cw3 rfl rfl rfl hl.1 rfl (Nat.le_of_ble_eq_true rfl) dX5_isFirstSound_85 (fun o w' H locs hp hB => ?_)
            obtain ⟨r30, q32, f34, rfl, ho31, hq33, rfl⟩ := hp
            refine W.eq (g2 := F0 m 88 ls []) rfl ?_
            refine lv_aload_n hx hb dX5_isFirstSound_88 rfl (lv_at hl 1 rfl) ?_
            refine gf hX hB cw0 rfl in5 4 (by decide) wm_1_141 rfl rfl dX5_isFirstSound_89 ?_
            refine gfN hX hB cw3 rfl in1 3 (by decide) wn_1_105 rfl rfl dX5_isFirstSound_92 ?_
            refine lv_if_ne (tgt := 106) hx hb dX5_isFirstSound_95 (by decide) (fun c35 => ?_) (fun c35 => ?_)
            · refine lv_iconst (v := 1) hx hb dX5_isFirstSound_106 (by decide) ?_
              refine lv_goto (tgt := 111) hx hb dX5_isFirstSound_107 (by decide) ?_
              rw [← hQ]
              exact end_i hX hB hA3 rfl rfl ⟨1, r30, q32, f34, rfl, Or.inr rfl, (fun h => ho31 ((fun h => ho25 ((fun h => ho5 ((fun h => h) h)) h)) h)), (hq33.trans (hq27.trans (hq7.trans rfl))), rfl⟩ (Nat.le_of_ble_eq_true rfl) (Nat.le_of_ble_eq_true rfl) dX5_isFirstSound_111
            · refine lv_aload_n hx hb dX5_isFirstSound_98 rfl (lv_at hl 1 rfl) ?_
              refine lv_aload_n hx hb dX5_isFirstSound_99 rfl (lv_at hl 0 rfl) ?_
              refine call_V (n := 1) (As := [.ref (a 6)]) (rest := []) hX hB (k_X5_isSoundBySteps κ l a r30 q32 f34 0 (by decide)) ⟨rfl, by decide, by decide, by decide +kernel⟩ wm_2_118 wm_2_120 wp_14 wm_1_1 wm_2_121 ⟨Nat.le_of_ble_eq_true rfl, Nat.le_of_ble_eq_true rfl⟩ ⟨Nat.le_of_ble_eq_true rfl, Nat.le_of_ble_eq_true rfl⟩ cw0 rfl rfl rfl hl.1 rfl (Nat.le_of_ble_eq_true rfl) dX5_isFirstSound_100 (fun o w' H locs hp hB => ?_)
              obtain ⟨x36, r37, q39, f41, rfl, bx36, ho38, hq40, rfl⟩ := hp
              refine W.eq (g2 := F0 m 103 ls [.int x36]) rfl ?_
              refine lv_if_eq (tgt := 110) hx hb dX5_isFirstSound_103 (by decide) (fun c42 => ?_) (fun c42 => ?_)
              · refine lv_iconst (v := 0) hx hb dX5_isFirstSound_110 (by decide) ?_
                rw [← hQ]
                exact end_i hX hB hA3 rfl rfl ⟨0, r37, q39, f41, rfl, Or.inl rfl, (fun h => ho38 ((fun h => ho31 ((fun h => ho25 ((fun h => ho5 ((fun h => h) h)) h)) h)) h)), (hq40.trans (hq33.trans (hq27.trans (hq7.trans rfl)))), rfl⟩ (Nat.le_of_ble_eq_true rfl) (Nat.le_of_ble_eq_true rfl) dX5_isFirstSound_111
              · refine lv_iconst (v := 1) hx hb dX5_isFirstSound_106 (by decide) ?_
                refine lv_goto (tgt := 111) hx hb dX5_isFirstSound_107 (by decide) ?_
                rw [← hQ]
                exact end_i hX hB hA3 rfl rfl ⟨1, r37, q39, f41, rfl, Or.inr rfl, (fun h => ho38 ((fun h => ho31 ((fun h => ho25 ((fun h => ho5 ((fun h => h) h)) h)) h)) h)), (hq40.trans (hq33.trans (hq27.trans (hq7.trans rfl)))), rfl⟩ (Nat.le_of_ble_eq_true rfl) (Nat.le_of_ble_eq_true rfl) dX5_isFirstSound_111
          · refine lv_iconst (v := 0) hx hb dX5_isFirstSound_78 (by decide) ?_
            rw [← hQ]
            exact end_i hX hB hA3 rfl rfl ⟨0, r24, q26, f28, rfl, Or.inl rfl, (fun h => ho25 ((fun h => ho5 ((fun h => h) h)) h)), (hq27.trans (hq7.trans rfl)), rfl⟩ (Nat.le_of_ble_eq_true rfl) (Nat.le_of_ble_eq_true rfl) dX5_isFirstSound_79
      · refine lv_aload_n hx hb dX5_isFirstSound_36 rfl (lv_at hl 0 rfl) ?_
        refine call_S (n := 1) (As := [.ref (a 6)]) (rest := []) hX hB (k_X0_byFirstRow κ l a r q f 0 (by decide)) ⟨by decide, by decide, by decide +kernel⟩ wm_1_180 wm_1_181 wm_1_29 wm_1_182 ⟨Nat.le_of_ble_eq_true rfl, Nat.le_of_ble_eq_true rfl⟩ ⟨Nat.le_of_ble_eq_true rfl, Nat.le_of_ble_eq_true rfl⟩ rfl hl.1 rfl (Nat.le_of_ble_eq_true rfl) dX5_isFirstSound_37 (fun o w' H locs hp hB => ?_)
        obtain ⟨x43, rfl, rfl⟩ := hp
        refine W.eq (g2 := F0 m 40 ls [.long x43]) rfl ?_
        refine lv_aload_n hx hb dX5_isFirstSound_40 rfl (lv_at hl 0 rfl) ?_
        refine lv_iconst (v := 0) hx hb dX5_isFirstSound_41 (by decide) ?_
        refine lv_iconst (v := 0) hx hb dX5_isFirstSound_42 (by decide) ?_
        refine call_S (n := 3) (As := [.ref (a 6), .int 0, .int 0]) (rest := [.long x43]) hX hB (k_X0_bySequences_4 κ l a r q f 0 0 0 (by decide) (by decide)) ⟨by decide, by decide, by decide +kernel⟩ wm_1_190 wm_1_191 wm_1_29 wm_1_192 ⟨Nat.le_of_ble_eq_true rfl, Nat.le_of_ble_eq_true rfl⟩ ⟨Nat.le_of_ble_eq_true rfl, Nat.le_of_ble_eq_true rfl⟩ rfl hl.1 rfl (Nat.le_of_ble_eq_true rfl) dX5_isFirstSound_43 (fun o w' H locs hp hB => ?_)
        obtain ⟨x44, rfl, rfl⟩ := hp
        refine W.eq (g2 := F0 m 46 ls [.long x44, .long x43]) rfl ?_
        refine W.lcmp hx hb dX5_isFirstSound_46 ?_
        refine lv_if_eq (tgt := 52) hx hb dX5_isFirstSound_47 (by decide) (fun c45 => ?_) (fun c45 => ?_)
        · refine lv_aload_n hx hb dX5_isFirstSound_52 rfl (lv_at hl 1 rfl) ?_
          refine gf hX hB cw0 rfl in5 3 (by decide) wm_1_140 rfl rfl dX5_isFirstSound_53 ?_
          refine lv_aload_n hx hb dX5_isFirstSound_56 rfl (lv_at hl 0 rfl) ?_
          refine call_V (n := 1) (As := [.ref (a 6)]) (rest := []) hX hB (k_X4_walk κ l a r q f 0 (by decide)) ⟨rfl, by decide, by decide, by decide +kernel⟩ wm_1_200 wm_1_201 wm_1_202 wm_1_3 wm_1_203 ⟨Nat.le_of_ble_eq_true rfl, Nat.le_of_ble_eq_true rfl⟩ ⟨Nat.le_of_ble_eq_true rfl, Nat.le_of_ble_eq_true rfl⟩ cw2 rfl rfl rfl hl.1 rfl (Nat.le_of_ble_eq_true rfl) dX5_isFirstSound_57 (fun o w' H locs hp hB => ?_)
          obtain ⟨r46, q48, f50, rfl, ho47, hq49, rfl⟩ := hp
          refine W.eq (g2 := F0 m 60 ls []) rfl ?_
          refine lv_aload_n hx hb dX5_isFirstSound_60 rfl (lv_at hl 1 rfl) ?_
          refine gf hX hB cw0 rfl in5 3 (by decide) wm_1_140 rfl rfl dX5_isFirstSound_61 ?_
          refine gfN hX hB cw2 rfl in4 2 (by decide) wn_1_79 rfl rfl dX5_isFirstSound_64 ?_
          refine lv_if_ne (tgt := 80) hx hb dX5_isFirstSound_67 (by decide) (fun c51 => ?_) (fun c51 => ?_)
          · refine lv_aload_n hx hb dX5_isFirstSound_80 rfl (lv_at hl 1 rfl) ?_
            refine gf hX hB cw0 rfl in5 4 (by decide) wm_1_141 rfl rfl dX5_isFirstSound_81 ?_
            refine lv_aload_n hx hb dX5_isFirstSound_84 rfl (lv_at hl 0 rfl) ?_
            refine call_V (n := 1) (As := [.ref (a 6)]) (rest := []) hX hB (k_X1_walk κ l a r46 q48 f50 0 (by decide)) ⟨rfl, by decide, by decide, by decide +kernel⟩ wm_2_72 wm_2_73 wm_2_74 wm_1_4 wm_2_75 ⟨Nat.le_of_ble_eq_true rfl, Nat.le_of_ble_eq_true rfl⟩ ⟨Nat.le_of_ble_eq_true rfl, Nat.le_of_ble_eq_true rfl⟩ cw3 rfl rfl rfl hl.1 rfl (Nat.le_of_ble_eq_true rfl) dX5_isFirstSound_85 (fun o w' H locs hp hB => ?_)
            obtain ⟨r52, q54, f56, rfl, ho53, hq55, rfl⟩ := hp
            refine W.eq (g2 := F0 m 88 ls []) rfl ?_
            refine lv_aload_n hx hb dX5_isFirstSound_88 rfl (lv_at hl 1 rfl) ?_
            refine gf hX hB cw0 rfl in5 4 (by decide) wm_1_141 rfl rfl dX5_isFirstSound_89 ?_
            refine gfN hX hB cw3 rfl in1 3 (by decide) wn_1_105 rfl rfl dX5_isFirstSound_92 ?_
            refine lv_if_ne (tgt := 106) hx hb dX5_isFirstSound_95 (by decide) (fun c57 => ?_) (fun c57 => ?_)
            · refine lv_iconst (v := 1) hx hb dX5_isFirstSound_106 (by decide) ?_
              refine lv_goto (tgt := 111) hx hb dX5_isFirstSound_107 (by decide) ?_
              rw [← hQ]
              exact end_i hX hB hA3 rfl rfl ⟨1, r52, q54, f56, rfl, Or.inr rfl, (fun h => ho53 ((fun h => ho47 ((fun h => h) h)) h)), (hq55.trans (hq49.trans rfl)), rfl⟩ (Nat.le_of_ble_eq_true rfl) (Nat.le_of_ble_eq_true rfl) dX5_isFirstSound_111
            · refine lv_aload_n hx hb dX5_isFirstSound_98 rfl (lv_at hl 1 rfl) ?_
              refine lv_aload_n hx hb dX5_isFirstSound_99 rfl (lv_at hl 0 rfl) ?_
              refine call_V (n := 1) (As := [.ref (a 6)]) (rest := []) hX hB (k_X5_isSoundBySteps κ l a r52 q54 f56 0 (by decide)) ⟨rfl, by decide, by decide, by decide +kernel⟩ wm_2_118 wm_2_120 wp_14 wm_1_1 wm_2_121 ⟨Nat.le_of_ble_eq_true rfl, Nat.le_of_ble_eq_true rfl⟩ ⟨Nat.le_of_ble_eq_true rfl, Nat.le_of_ble_eq_true rfl⟩ cw0 rfl rfl rfl hl.1 rfl (Nat.le_of_ble_eq_true rfl) dX5_isFirstSound_100 (fun o w' H locs hp hB => ?_)
              obtain ⟨x58, r59, q61, f63, rfl, bx58, ho60, hq62, rfl⟩ := hp
              refine W.eq (g2 := F0 m 103 ls [.int x58]) rfl ?_
              refine lv_if_eq (tgt := 110) hx hb dX5_isFirstSound_103 (by decide) (fun c64 => ?_) (fun c64 => ?_)
              · refine lv_iconst (v := 0) hx hb dX5_isFirstSound_110 (by decide) ?_
                rw [← hQ]
                exact end_i hX hB hA3 rfl rfl ⟨0, r59, q61, f63, rfl, Or.inl rfl, (fun h => ho60 ((fun h => ho53 ((fun h => ho47 ((fun h => h) h)) h)) h)), (hq62.trans (hq55.trans (hq49.trans rfl))), rfl⟩ (Nat.le_of_ble_eq_true rfl) (Nat.le_of_ble_eq_true rfl) dX5_isFirstSound_111
              · refine lv_iconst (v := 1) hx hb dX5_isFirstSound_106 (by decide) ?_
                refine lv_goto (tgt := 111) hx hb dX5_isFirstSound_107 (by decide) ?_
                rw [← hQ]
                exact end_i hX hB hA3 rfl rfl ⟨1, r59, q61, f63, rfl, Or.inr rfl, (fun h => ho60 ((fun h => ho53 ((fun h => ho47 ((fun h => h) h)) h)) h)), (hq62.trans (hq55.trans (hq49.trans rfl))), rfl⟩ (Nat.le_of_ble_eq_true rfl) (Nat.le_of_ble_eq_true rfl) dX5_isFirstSound_111
          · refine lv_aload_n hx hb dX5_isFirstSound_70 rfl (lv_at hl 1 rfl) ?_
            refine lv_aload_n hx hb dX5_isFirstSound_71 rfl (lv_at hl 0 rfl) ?_
            refine call_V (n := 1) (As := [.ref (a 6)]) (rest := []) hX hB (k_X5_isSoundByRowSteps κ l a r46 q48 f50 0 (by decide) ((fun h => ho47 ((fun h => h) h)) hok)) ⟨rfl, by decide, by decide, by decide +kernel⟩ wm_2_36 wm_2_38 wp_6 wm_1_1 wm_2_39 ⟨Nat.le_of_ble_eq_true rfl, Nat.le_of_ble_eq_true rfl⟩ ⟨Nat.le_of_ble_eq_true rfl, Nat.le_of_ble_eq_true rfl⟩ cw0 rfl rfl rfl hl.1 rfl (Nat.le_of_ble_eq_true rfl) dX5_isFirstSound_72 (fun o w' H locs hp hB => ?_)
            obtain ⟨x65, r66, q68, f70, rfl, bx65, ho67, hq69, rfl⟩ := hp
            refine W.eq (g2 := F0 m 75 ls [.int x65]) rfl ?_
            refine lv_if_ne (tgt := 80) hx hb dX5_isFirstSound_75 (by decide) (fun c71 => ?_) (fun c71 => ?_)
            · refine lv_aload_n hx hb dX5_isFirstSound_80 rfl (lv_at hl 1 rfl) ?_
              refine gf hX hB cw0 rfl in5 4 (by decide) wm_1_141 rfl rfl dX5_isFirstSound_81 ?_
              refine lv_aload_n hx hb dX5_isFirstSound_84 rfl (lv_at hl 0 rfl) ?_
              refine call_V (n := 1) (As := [.ref (a 6)]) (rest := []) hX hB (k_X1_walk κ l a r66 q68 f70 0 (by decide)) ⟨rfl, by decide, by decide, by decide +kernel⟩ wm_2_72 wm_2_73 wm_2_74 wm_1_4 wm_2_75 ⟨Nat.le_of_ble_eq_true rfl, Nat.le_of_ble_eq_true rfl⟩ ⟨Nat.le_of_ble_eq_true rfl, Nat.le_of_ble_eq_true rfl⟩ cw3 rfl rfl rfl hl.1 rfl (Nat.le_of_ble_eq_true rfl) dX5_isFirstSound_85 (fun o w' H locs hp hB => ?_)
              obtain ⟨r72, q74, f76, rfl, ho73, hq75, rfl⟩ := hp
              refine W.eq (g2 := F0 m 88 ls []) rfl ?_
              refine lv_aload_n hx hb dX5_isFirstSound_88 rfl (lv_at hl 1 rfl) ?_
              refine gf hX hB cw0 rfl in5 4 (by decide) wm_1_141 rfl rfl dX5_isFirstSound_89 ?_
              refine gfN hX hB cw3 rfl in1 3 (by decide) wn_1_105 rfl rfl dX5_isFirstSound_92 ?_
              refine lv_if_ne (tgt := 106) hx hb dX5_isFirstSound_95 (by decide) (fun c77 => ?_) (fun c77 => ?_)
              · refine lv_iconst (v := 1) hx hb dX5_isFirstSound_106 (by decide) ?_
                refine lv_goto (tgt := 111) hx hb dX5_isFirstSound_107 (by decide) ?_
                rw [← hQ]
                exact end_i hX hB hA3 rfl rfl ⟨1, r72, q74, f76, rfl, Or.inr rfl, (fun h => ho73 ((fun h => ho67 ((fun h => ho47 ((fun h => h) h)) h)) h)), (hq75.trans (hq69.trans (hq49.trans rfl))), rfl⟩ (Nat.le_of_ble_eq_true rfl) (Nat.le_of_ble_eq_true rfl) dX5_isFirstSound_111
              · refine lv_aload_n hx hb dX5_isFirstSound_98 rfl (lv_at hl 1 rfl) ?_
                refine lv_aload_n hx hb dX5_isFirstSound_99 rfl (lv_at hl 0 rfl) ?_
                refine call_V (n := 1) (As := [.ref (a 6)]) (rest := []) hX hB (k_X5_isSoundBySteps κ l a r72 q74 f76 0 (by decide)) ⟨rfl, by decide, by decide, by decide +kernel⟩ wm_2_118 wm_2_120 wp_14 wm_1_1 wm_2_121 ⟨Nat.le_of_ble_eq_true rfl, Nat.le_of_ble_eq_true rfl⟩ ⟨Nat.le_of_ble_eq_true rfl, Nat.le_of_ble_eq_true rfl⟩ cw0 rfl rfl rfl hl.1 rfl (Nat.le_of_ble_eq_true rfl) dX5_isFirstSound_100 (fun o w' H locs hp hB => ?_)
                obtain ⟨x78, r79, q81, f83, rfl, bx78, ho80, hq82, rfl⟩ := hp
                refine W.eq (g2 := F0 m 103 ls [.int x78]) rfl ?_
                refine lv_if_eq (tgt := 110) hx hb dX5_isFirstSound_103 (by decide) (fun c84 => ?_) (fun c84 => ?_)
                · refine lv_iconst (v := 0) hx hb dX5_isFirstSound_110 (by decide) ?_
                  rw [← hQ]
                  exact end_i hX hB hA3 rfl rfl ⟨0, r79, q81, f83, rfl, Or.inl rfl, (fun h => ho80 ((fun h => ho73 ((fun h => ho67 ((fun h => ho47 ((fun h => h) h)) h)) h)) h)), (hq82.trans (hq75.trans (hq69.trans (hq49.trans rfl)))), rfl⟩ (Nat.le_of_ble_eq_true rfl) (Nat.le_of_ble_eq_true rfl) dX5_isFirstSound_111
                · refine lv_iconst (v := 1) hx hb dX5_isFirstSound_106 (by decide) ?_
                  refine lv_goto (tgt := 111) hx hb dX5_isFirstSound_107 (by decide) ?_
                  rw [← hQ]
                  exact end_i hX hB hA3 rfl rfl ⟨1, r79, q81, f83, rfl, Or.inr rfl, (fun h => ho80 ((fun h => ho73 ((fun h => ho67 ((fun h => ho47 ((fun h => h) h)) h)) h)) h)), (hq82.trans (hq75.trans (hq69.trans (hq49.trans rfl)))), rfl⟩ (Nat.le_of_ble_eq_true rfl) (Nat.le_of_ble_eq_true rfl) dX5_isFirstSound_111
            · refine lv_iconst (v := 0) hx hb dX5_isFirstSound_78 (by decide) ?_
              rw [← hQ]
              exact end_i hX hB hA3 rfl rfl ⟨0, r66, q68, f70, rfl, Or.inl rfl, (fun h => ho67 ((fun h => ho47 ((fun h => h) h)) h)), (hq69.trans (hq49.trans rfl)), rfl⟩ (Nat.le_of_ble_eq_true rfl) (Nat.le_of_ble_eq_true rfl) dX5_isFirstSound_79
        · refine lv_iconst (v := 0) hx hb dX5_isFirstSound_50 (by decide) ?_
          rw [← hQ]
          exact end_i hX hB hA3 rfl rfl ⟨0, r, q, f, rfl, Or.inl rfl, (fun h => h), rfl, rfl⟩ (Nat.le_of_ble_eq_true rfl) (Nat.le_of_ble_eq_true rfl) dX5_isFirstSound_51
    · refine lv_iconst (v := 1) hx hb dX5_isFirstSound_23 (by decide) ?_
      rw [← hQ]
      exact end_i hX hB hA3 rfl rfl ⟨1, r, q, f, rfl, Or.inr rfl, (fun h => h), rfl, rfl⟩ (Nat.le_of_ble_eq_true rfl) (Nat.le_of_ble_eq_true rfl) dX5_isFirstSound_24
