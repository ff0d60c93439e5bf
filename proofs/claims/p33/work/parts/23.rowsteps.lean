set_option maxHeartbeats 4000000 in
set_option maxRecDepth 100000 in
theorem k_X4_findLeastRow (κ : Kt) (l : Launch) (a : Nat → Nat) (r q : Nat → Int32) (f : Nat → Nat → Int64) (p0 : Int32) (p1 : Int32)  : CM κ l yX4_findLeastRow cX4_findLeastRow 7 (some .int) 1 22 0 0 [.ref (a 2), .int p0, .int p1] (cw κ a r q f) (fun o w' => ∃ x : Int32, o = some (.int x) ∧ w' = cw κ a r q f) := by
  refine CM_begin (plainFor_of_name (by decide)) (Nat.le_of_ble_eq_true rfl) ?_
  intro p e s m args below meth c A Q hX hnm hA3 hQ hB ls hl
  have hx := hX.1.1
  have hb := hX.1.2.1
  have hl : lv_has ls 7 [(0, .ref (a 2)), (1, .int p0), (2, .int p1)] := hl
  refine lv_iconst (v := (-1)) hx hb dX4_findLeastRow_0 (by decide) ?_
  refine lv_istore_n (lv' := [(3, .int (-1)), (0, .ref (a 2)), (1, .int p0), (2, .int p1)]) hx hb dX4_findLeastRow_1 rfl hl (by decide) rfl (fun ls hl => ?_)
  refine lv_iload_n hx hb dX4_findLeastRow_2 rfl (lv_at hl 2 rfl) ?_
  refine lv_istore (lv' := [(4, .int p0), (3, .int (-1)), (0, .ref (a 2)), (1, .int p0), (2, .int p1)]) hx hb dX4_findLeastRow_3 hl (by decide) rfl (fun ls hl => ?_)
  have lp5 : ∀ (nn : Nat) (y4_5 : Int32) (y3_5 : Int32) (H : Heap) (locs : List Loc), gap (r (2 * 6)) y4_5 < nn → Bd κ A s (cw κ a r q f) H locs → ∀ ls : Array Slot, lv_has ls 7 [(4, .int y4_5), (3, .int y3_5), (0, .ref (a 2)), (1, .int p0), (2, .int p1)] → W p l e (Rm 1 22 0 0) s m args below meth c H locs 0 0 Q (F0 m 5 ls []) := by
    intro nn
    induction nn with
    | zero => intro y4_5 y3_5 H locs hμ; exact absurd hμ (Nat.not_lt_zero _)
    | succ nn ih5 =>
      intro y4_5 y3_5 H locs hμ5 hB ls hl
      refine lv_iload hx hb dX4_findLeastRow_5 (lv_at hl 0 rfl) ?_
      refine lv_aload_n hx hb dX4_findLeastRow_7 rfl (lv_at hl 2 rfl) ?_
      refine gf hX hB cw2 rfl in4 0 (by decide) wm_1_74 rfl rfl dX4_findLeastRow_8 ?_
      refine gfN hX hB (cwG (i := 6) (by decide)) rfl in3 1 (by decide) wn_1_48 rfl rfl dX4_findLeastRow_11 ?_
      refine lv_icmp_ge (tgt := 70) hx hb dX4_findLeastRow_14 (by decide) (fun c17 => ?_) (fun c17 => ?_)
      · refine lv_iload_n hx hb dX4_findLeastRow_70 rfl (lv_at hl 1 rfl) ?_
        rw [← hQ]
        exact end_i hX hB hA3 rfl rfl ⟨y3_5, rfl, rfl⟩ (Nat.le_of_ble_eq_true rfl) (Nat.le_of_ble_eq_true rfl) dX4_findLeastRow_71
      · refine lv_aload_n hx hb dX4_findLeastRow_17 rfl (lv_at hl 2 rfl) ?_
        refine gf hX hB cw2 rfl in4 0 (by decide) wm_1_74 rfl rfl dX4_findLeastRow_18 ?_
        refine lv_iload hx hb dX4_findLeastRow_21 (lv_at hl 0 rfl) ?_
        refine lv_iload_n hx hb dX4_findLeastRow_23 rfl (lv_at hl 4 rfl) ?_
        refine call_V (n := 2) (As := [.int y4_5, .int p1]) (rest := []) hX hB (k_X3_get κ l a r q f 6 y4_5 p1 (by decide)) ⟨rfl, by decide, by decide, by decide +kernel⟩ wm_1_235 wm_1_187 wm_1_188 wm_1_2 wm_1_189 ⟨Nat.le_of_ble_eq_true rfl, Nat.le_of_ble_eq_true rfl⟩ ⟨Nat.le_of_ble_eq_true rfl, Nat.le_of_ble_eq_true rfl⟩ (cwG (i := 6) (by decide)) rfl rfl rfl hl.1 rfl (Nat.le_of_ble_eq_true rfl) dX4_findLeastRow_24 (fun o w' H locs hp hB => ?_)
        obtain ⟨x18, rfl, rfl⟩ := hp
        refine W.eq (g2 := F0 m 27 ls [.long x18]) rfl ?_
        refine va_mabs_long hx hb (by rw [hX.1.2.2.1]; exact hl.1.symm) hX.1.2.2.2.1 (hX.1.2.2.2.2 _ wm_1_236) (hX.1.2.2.2.2 _ wm_1_237) (hX.1.2.2.2.2 _ wm_1_14) (hX.1.2.2.2.2 _ wm_1_238) (Nat.le_of_ble_eq_true rfl) (Nat.le_of_ble_eq_true rfl) (Nat.le_of_ble_eq_true rfl) (Nat.le_of_ble_eq_true rfl) dX4_findLeastRow_27 ?_
        refine lv_topl (fun t19 et19 => ?_)
        refine lv_lstore (lv' := [(5, .long t19), (4, .int y4_5), (3, .int y3_5), (0, .ref (a 2)), (1, .int p0), (2, .int p1)]) hx hb dX4_findLeastRow_30 hl (by decide) rfl (fun ls hl => ?_)
        refine lv_lload hx hb dX4_findLeastRow_32 (lv_at hl 0 rfl) ?_
        refine lv_lconst (v := 0) hx hb dX4_findLeastRow_34 (by decide) ?_
        refine W.lcmp hx hb dX4_findLeastRow_35 ?_
        refine lv_if_eq (tgt := 64) hx hb dX4_findLeastRow_36 (by decide) (fun c20 => ?_) (fun c20 => ?_)
        · refine lv_iinc (v := y4_5 + 1) (lv' := [(4, .int (y4_5 + 1)), (5, .long t19), (3, .int y3_5), (0, .ref (a 2)), (1, .int p0), (2, .int p1)]) hx hb dX4_findLeastRow_64 hl (k := 1) rfl rfl (by decide) rfl (fun ls hl => ?_)
          refine lv_goto (tgt := 5) hx hb dX4_findLeastRow_67 (by decide) ?_
          exact ih5 (y4_5 + 1) y3_5 _ _  (gap_step c17 hμ5) hB _ (lv_sub hl [0, 2, 3, 4, 5] rfl)
        · refine lv_iload_n hx hb dX4_findLeastRow_39 rfl (lv_at hl 2 rfl) ?_
          refine lv_if_lt (tgt := 61) hx hb dX4_findLeastRow_40 (by decide) (fun c21 => ?_) (fun c21 => ?_)
          · refine lv_iload hx hb dX4_findLeastRow_61 (lv_at hl 1 rfl) ?_
            refine lv_istore_n (lv' := [(3, .int y4_5), (5, .long t19), (4, .int y4_5), (0, .ref (a 2)), (1, .int p0), (2, .int p1)]) hx hb dX4_findLeastRow_63 rfl hl (by decide) rfl (fun ls hl => ?_)
            refine lv_iinc (v := y4_5 + 1) (lv' := [(4, .int (y4_5 + 1)), (3, .int y4_5), (5, .long t19), (0, .ref (a 2)), (1, .int p0), (2, .int p1)]) hx hb dX4_findLeastRow_64 hl (k := 2) rfl rfl (by decide) rfl (fun ls hl => ?_)
            refine lv_goto (tgt := 5) hx hb dX4_findLeastRow_67 (by decide) ?_
            exact ih5 (y4_5 + 1) y4_5 _ _  (gap_step c17 hμ5) hB _ (lv_sub hl [0, 1, 3, 4, 5] rfl)
          · refine lv_lload hx hb dX4_findLeastRow_43 (lv_at hl 0 rfl) ?_
            refine lv_aload_n hx hb dX4_findLeastRow_45 rfl (lv_at hl 3 rfl) ?_
            refine gf hX hB cw2 rfl in4 0 (by decide) wm_1_74 rfl rfl dX4_findLeastRow_46 ?_
            refine lv_iload_n hx hb dX4_findLeastRow_49 rfl (lv_at hl 2 rfl) ?_
            refine lv_iload_n hx hb dX4_findLeastRow_50 rfl (lv_at hl 5 rfl) ?_
            refine call_V (n := 2) (As := [.int y3_5, .int p1]) (rest := [.long t19]) hX hB (k_X3_get κ l a r q f 6 y3_5 p1 (by decide)) ⟨rfl, by decide, by decide, by decide +kernel⟩ wm_1_235 wm_1_187 wm_1_188 wm_1_2 wm_1_189 ⟨Nat.le_of_ble_eq_true rfl, Nat.le_of_ble_eq_true rfl⟩ ⟨Nat.le_of_ble_eq_true rfl, Nat.le_of_ble_eq_true rfl⟩ (cwG (i := 6) (by decide)) rfl rfl rfl hl.1 rfl (Nat.le_of_ble_eq_true rfl) dX4_findLeastRow_51 (fun o w' H locs hp hB => ?_)
            obtain ⟨x22, rfl, rfl⟩ := hp
            refine W.eq (g2 := F0 m 54 ls [.long x22, .long t19]) rfl ?_
            refine va_mabs_long hx hb (by rw [hX.1.2.2.1]; exact hl.1.symm) hX.1.2.2.2.1 (hX.1.2.2.2.2 _ wm_1_236) (hX.1.2.2.2.2 _ wm_1_237) (hX.1.2.2.2.2 _ wm_1_14) (hX.1.2.2.2.2 _ wm_1_238) (Nat.le_of_ble_eq_true rfl) (Nat.le_of_ble_eq_true rfl) (Nat.le_of_ble_eq_true rfl) (Nat.le_of_ble_eq_true rfl) dX4_findLeastRow_54 ?_
            refine lv_topl (fun t23 et23 => ?_)
            refine W.lcmp hx hb dX4_findLeastRow_57 ?_
            refine lv_if_ge (tgt := 64) hx hb dX4_findLeastRow_58 (by decide) (fun c24 => ?_) (fun c24 => ?_)
            · refine lv_iinc (v := y4_5 + 1) (lv' := [(4, .int (y4_5 + 1)), (5, .long t19), (3, .int y3_5), (0, .ref (a 2)), (1, .int p0), (2, .int p1)]) hx hb dX4_findLeastRow_64 hl (k := 1) rfl rfl (by decide) rfl (fun ls hl => ?_)
              refine lv_goto (tgt := 5) hx hb dX4_findLeastRow_67 (by decide) ?_
              exact ih5 (y4_5 + 1) y3_5 _ _  (gap_step c17 hμ5) hB _ (lv_sub hl [0, 2, 3, 4, 5] rfl)
            · refine lv_iload hx hb dX4_findLeastRow_61 (lv_at hl 1 rfl) ?_
              refine lv_istore_n (lv' := [(3, .int y4_5), (5, .long t19), (4, .int y4_5), (0, .ref (a 2)), (1, .int p0), (2, .int p1)]) hx hb dX4_findLeastRow_63 rfl hl (by decide) rfl (fun ls hl => ?_)
              refine lv_iinc (v := y4_5 + 1) (lv' := [(4, .int (y4_5 + 1)), (3, .int y4_5), (5, .long t19), (0, .ref (a 2)), (1, .int p0), (2, .int p1)]) hx hb dX4_findLeastRow_64 hl (k := 2) rfl rfl (by decide) rfl (fun ls hl => ?_)
              refine lv_goto (tgt := 5) hx hb dX4_findLeastRow_67 (by decide) ?_
              exact ih5 (y4_5 + 1) y4_5 _ _  (gap_step c17 hμ5) hB _ (lv_sub hl [0, 1, 3, 4, 5] rfl)
  exact lp5 _ p0 (-1) _ _  (Nat.lt_succ_self _) hB _ hl
set_option maxHeartbeats 4000000 in
set_option maxRecDepth 100000 in
theorem k_X4_bring (κ : Kt) (l : Launch) (a : Nat → Nat) (r q : Nat → Int32) (f : Nat → Nat → Int64) (p0 : Int32) (p1 : Int32) (p2 : Int32)  : CM κ l yX4_bring cX4_bring 4 (none) 2 51 0 0 [.ref (a 2), .int p0, .int p1, .int p2] (cw κ a r q f) (fun o w' => ∃ f' : Nat → Nat → Int64, o = none ∧ w' = cw κ a r q f') := by
  refine CM_begin (plainFor_of_name (by decide)) (Nat.le_of_ble_eq_true rfl) ?_
  intro p e s m args below meth c A Q hX hnm hA3 hQ hB ls hl
  have hx := hX.1.1
  have hb := hX.1.2.1
  have hl : lv_has ls 4 [(0, .ref (a 2)), (1, .int p0), (2, .int p1), (3, .int p2)] := hl
  refine lv_iload_n hx hb dX4_bring_0 rfl (lv_at hl 1 rfl) ?_
  refine lv_iload_n hx hb dX4_bring_1 rfl (lv_at hl 2 rfl) ?_
  have jn25 : ∀ (f_25 : Nat → Nat → Int64) (H : Heap) (locs : List Loc), Bd κ A s (cw κ a r q f_25) H locs → ∀ ls : Array Slot, lv_has ls 4 [(0, .ref (a 2)), (1, .int p0), (2, .int p1), (3, .int p2)] → W p l e (Rm 2 51 0 0) s m args below meth c H locs 0 0 Q (F0 m 25 ls []) := by
    intro f_25 H locs hB ls hl
    refine lv_aload_n hx hb dX4_bring_25 rfl (lv_at hl 0 rfl) ?_
    refine gf hX hB cw2 rfl in4 0 (by decide) wm_1_74 rfl rfl dX4_bring_26 ?_
    refine lv_iload_n hx hb dX4_bring_29 rfl (lv_at hl 2 rfl) ?_
    refine lv_iload_n hx hb dX4_bring_30 rfl (lv_at hl 3 rfl) ?_
    refine call_V (n := 2) (As := [.int p1, .int p2]) (rest := []) hX hB (k_X3_get κ l a r q f_25 6 p1 p2 (by decide)) ⟨rfl, by decide, by decide, by decide +kernel⟩ wm_1_235 wm_1_187 wm_1_188 wm_1_2 wm_1_189 ⟨Nat.le_of_ble_eq_true rfl, Nat.le_of_ble_eq_true rfl⟩ ⟨Nat.le_of_ble_eq_true rfl, Nat.le_of_ble_eq_true rfl⟩ (cwG (i := 6) (by decide)) rfl rfl rfl hl.1 rfl (Nat.le_of_ble_eq_true rfl) dX4_bring_31 (fun o w' H locs hp hB => ?_)
    obtain ⟨x4, rfl, rfl⟩ := hp
    refine W.eq (g2 := F0 m 34 ls [.long x4]) rfl ?_
    refine lv_lconst (v := 0) hx hb dX4_bring_34 (by decide) ?_
    refine W.lcmp hx hb dX4_bring_35 ?_
    refine lv_if_ge (tgt := 57) hx hb dX4_bring_36 (by decide) (fun c5 => ?_) (fun c5 => ?_)
    · rw [← hQ]
      exact end_v hX hB hA3 rfl ⟨f_25, rfl, rfl⟩ (Nat.le_of_ble_eq_true rfl) (Nat.le_of_ble_eq_true rfl) dX4_bring_57
    · refine lv_aload_n hx hb dX4_bring_39 rfl (lv_at hl 0 rfl) ?_
      refine gf hX hB cw2 rfl in4 0 (by decide) wm_1_74 rfl rfl dX4_bring_40 ?_
      refine lv_iconst (v := 0) hx hb dX4_bring_43 (by decide) ?_
      refine lv_iload_n hx hb dX4_bring_44 rfl (lv_at hl 2 rfl) ?_
      refine call_V (n := 2) (As := [.int 0, .int p1]) (rest := []) hX hB (k_X3_turnLine κ l a r q f_25 6 0 p1 (by decide)) ⟨rfl, by decide, by decide, by decide +kernel⟩ wm_2_8 wm_2_9 wm_2_10 wm_1_2 wm_2_11 ⟨Nat.le_of_ble_eq_true rfl, Nat.le_of_ble_eq_true rfl⟩ ⟨Nat.le_of_ble_eq_true rfl, Nat.le_of_ble_eq_true rfl⟩ (cwG (i := 6) (by decide)) rfl rfl rfl hl.1 rfl (Nat.le_of_ble_eq_true rfl) dX4_bring_45 (fun o w' H locs hp hB => ?_)
      obtain ⟨f6, rfl, rfl⟩ := hp
      refine W.eq (g2 := F0 m 48 ls []) rfl ?_
      refine lv_aload_n hx hb dX4_bring_48 rfl (lv_at hl 0 rfl) ?_
      refine gf hX hB cw2 rfl in4 1 (by decide) wm_1_76 rfl rfl dX4_bring_49 ?_
      refine lv_iconst (v := 0) hx hb dX4_bring_52 (by decide) ?_
      refine lv_iload_n hx hb dX4_bring_53 rfl (lv_at hl 2 rfl) ?_
      refine call_V (n := 2) (As := [.int 0, .int p1]) (rest := []) hX hB (k_X3_turnLine κ l a r q f6 7 0 p1 (by decide)) ⟨rfl, by decide, by decide, by decide +kernel⟩ wm_2_8 wm_2_9 wm_2_10 wm_1_2 wm_2_11 ⟨Nat.le_of_ble_eq_true rfl, Nat.le_of_ble_eq_true rfl⟩ ⟨Nat.le_of_ble_eq_true rfl, Nat.le_of_ble_eq_true rfl⟩ (cwG (i := 7) (by decide)) rfl rfl rfl hl.1 rfl (Nat.le_of_ble_eq_true rfl) dX4_bring_54 (fun o w' H locs hp hB => ?_)
      obtain ⟨f7, rfl, rfl⟩ := hp
      refine W.eq (g2 := F0 m 57 ls []) rfl ?_
      rw [← hQ]
      exact end_v hX hB hA3 rfl ⟨f7, rfl, rfl⟩ (Nat.le_of_ble_eq_true rfl) (Nat.le_of_ble_eq_true rfl) dX4_bring_57
  refine lv_icmp_eq (tgt := 25) hx hb dX4_bring_2 (by decide) (fun c8 => ?_) (fun c8 => ?_)
  · exact jn25 f _ _  hB _ hl
  · refine lv_aload_n hx hb dX4_bring_5 rfl (lv_at hl 0 rfl) ?_
    refine gf hX hB cw2 rfl in4 0 (by decide) wm_1_74 rfl rfl dX4_bring_6 ?_
    refine lv_iconst (v := 0) hx hb dX4_bring_9 (by decide) ?_
    refine lv_iload_n hx hb dX4_bring_10 rfl (lv_at hl 1 rfl) ?_
    refine lv_iload_n hx hb dX4_bring_11 rfl (lv_at hl 2 rfl) ?_
    refine call_V (n := 3) (As := [.int 0, .int p0, .int p1]) (rest := []) hX hB (k_X3_exchangeLines κ l a r q f 6 0 p0 p1 (by decide)) ⟨rfl, by decide, by decide, by decide +kernel⟩ wm_2_3 wm_2_4 wm_2_5 wm_1_2 wm_2_6 ⟨Nat.le_of_ble_eq_true rfl, Nat.le_of_ble_eq_true rfl⟩ ⟨Nat.le_of_ble_eq_true rfl, Nat.le_of_ble_eq_true rfl⟩ (cwG (i := 6) (by decide)) rfl rfl rfl hl.1 rfl (Nat.le_of_ble_eq_true rfl) dX4_bring_12 (fun o w' H locs hp hB => ?_)
    obtain ⟨f9, rfl, rfl⟩ := hp
    refine W.eq (g2 := F0 m 15 ls []) rfl ?_
    refine lv_aload_n hx hb dX4_bring_15 rfl (lv_at hl 0 rfl) ?_
    refine gf hX hB cw2 rfl in4 1 (by decide) wm_1_76 rfl rfl dX4_bring_16 ?_
    refine lv_iconst (v := 0) hx hb dX4_bring_19 (by decide) ?_
    refine lv_iload_n hx hb dX4_bring_20 rfl (lv_at hl 1 rfl) ?_
    refine lv_iload_n hx hb dX4_bring_21 rfl (lv_at hl 2 rfl) ?_
    refine call_V (n := 3) (As := [.int 0, .int p0, .int p1]) (rest := []) hX hB (k_X3_exchangeLines κ l a r q f9 7 0 p0 p1 (by decide)) ⟨rfl, by decide, by decide, by decide +kernel⟩ wm_2_3 wm_2_4 wm_2_5 wm_1_2 wm_2_6 ⟨Nat.le_of_ble_eq_true rfl, Nat.le_of_ble_eq_true rfl⟩ ⟨Nat.le_of_ble_eq_true rfl, Nat.le_of_ble_eq_true rfl⟩ (cwG (i := 7) (by decide)) rfl rfl rfl hl.1 rfl (Nat.le_of_ble_eq_true rfl) dX4_bring_22 (fun o w' H locs hp hB => ?_)
    obtain ⟨f10, rfl, rfl⟩ := hp
    refine W.eq (g2 := F0 m 25 ls []) rfl ?_
    exact jn25 f10 _ _  hB _ hl
set_option maxHeartbeats 4000000 in
set_option maxRecDepth 100000 in
theorem k_X4_takeOff (κ : Kt) (l : Launch) (a : Nat → Nat) (r q : Nat → Int32) (f : Nat → Nat → Int64) (p0 : Int32) (p1 : Int32) (p2 : Int32)  : CM κ l yX4_takeOff cX4_takeOff 6 (none) 2 51 0 0 [.ref (a 2), .int p0, .int p1, .int p2] (cw κ a r q f) (fun o w' => ∃ (q' : Nat → Int32) (f' : Nat → Nat → Int64), o = none ∧ q' 4 = q 4 ∧ w' = cw κ a r q' f') := by
  refine CM_begin (plainFor_of_name (by decide)) (Nat.le_of_ble_eq_true rfl) ?_
  intro p e s m args below meth c A Q hX hnm hA3 hQ hB ls hl
  have hx := hX.1.1
  have hb := hX.1.2.1
  have hl : lv_has ls 6 [(0, .ref (a 2)), (1, .int p0), (2, .int p1), (3, .int p2)] := hl
  refine lv_aload_n hx hb dX4_takeOff_0 rfl (lv_at hl 0 rfl) ?_
  refine gf hX hB cw2 rfl in4 0 (by decide) wm_1_74 rfl rfl dX4_takeOff_1 ?_
  refine lv_iload_n hx hb dX4_takeOff_4 rfl (lv_at hl 1 rfl) ?_
  refine lv_iload_n hx hb dX4_takeOff_5 rfl (lv_at hl 3 rfl) ?_
  refine call_V (n := 2) (As := [.int p0, .int p2]) (rest := []) hX hB (k_X3_get κ l a r q f 6 p0 p2 (by decide)) ⟨rfl, by decide, by decide, by decide +kernel⟩ wm_1_235 wm_1_187 wm_1_188 wm_1_2 wm_1_189 ⟨Nat.le_of_ble_eq_true rfl, Nat.le_of_ble_eq_true rfl⟩ ⟨Nat.le_of_ble_eq_true rfl, Nat.le_of_ble_eq_true rfl⟩ (cwG (i := 6) (by decide)) rfl rfl rfl hl.1 rfl (Nat.le_of_ble_eq_true rfl) dX4_takeOff_6 (fun o w' H locs hp hB => ?_)
  obtain ⟨x1, rfl, rfl⟩ := hp
  refine W.eq (g2 := F0 m 9 ls [.long x1]) rfl ?_
  refine lv_aload_n hx hb dX4_takeOff_9 rfl (lv_at hl 0 rfl) ?_
  refine gf hX hB cw2 rfl in4 0 (by decide) wm_1_74 rfl rfl dX4_takeOff_10 ?_
  refine lv_iload_n hx hb dX4_takeOff_13 rfl (lv_at hl 2 rfl) ?_
  refine lv_iload_n hx hb dX4_takeOff_14 rfl (lv_at hl 3 rfl) ?_
  refine call_V (n := 2) (As := [.int p1, .int p2]) (rest := [.long x1]) hX hB (k_X3_get κ l a r q f 6 p1 p2 (by decide)) ⟨rfl, by decide, by decide, by decide +kernel⟩ wm_1_235 wm_1_187 wm_1_188 wm_1_2 wm_1_189 ⟨Nat.le_of_ble_eq_true rfl, Nat.le_of_ble_eq_true rfl⟩ ⟨Nat.le_of_ble_eq_true rfl, Nat.le_of_ble_eq_true rfl⟩ (cwG (i := 6) (by decide)) rfl rfl rfl hl.1 rfl (Nat.le_of_ble_eq_true rfl) dX4_takeOff_15 (fun o w' H locs hp hB => ?_)
  obtain ⟨x2, rfl, rfl⟩ := hp
  refine W.eq (g2 := F0 m 18 ls [.long x2, .long x1]) rfl ?_
  refine call_SN (n := 2) (As := [.long x1, .long x2]) (rest := []) hX hB (k_X5_divideDown κ l (cw κ a r q f) x1 x2 ) ⟨by decide, by decide, by decide +kernel⟩ wn_2_16 wm_2_17 wm_1_1 wm_2_18 ⟨Nat.le_of_ble_eq_true rfl, Nat.le_of_ble_eq_true rfl⟩ ⟨Nat.le_of_ble_eq_true rfl, Nat.le_of_ble_eq_true rfl⟩ rfl hl.1 rfl (Nat.le_of_ble_eq_true rfl) dX4_takeOff_18 (fun o w' H locs hp hB => ?_)
  obtain ⟨x3, rfl, hw9⟩ := hp
  rw [hw9] at hB
  refine W.eq (g2 := F0 m 21 ls [.long x3]) rfl ?_
  refine lv_lstore (lv' := [(4, .long x3), (0, .ref (a 2)), (1, .int p0), (2, .int p1), (3, .int p2)]) hx hb dX4_takeOff_21 hl (by decide) rfl (fun ls hl => ?_)
  refine lv_aload_n hx hb dX4_takeOff_23 rfl (lv_at hl 1 rfl) ?_
  refine gf hX hB cw2 rfl in4 0 (by decide) wm_1_74 rfl rfl dX4_takeOff_24 ?_
  refine lv_iconst (v := 0) hx hb dX4_takeOff_27 (by decide) ?_
  refine lv_iload_n hx hb dX4_takeOff_28 rfl (lv_at hl 2 rfl) ?_
  refine lv_iload_n hx hb dX4_takeOff_29 rfl (lv_at hl 3 rfl) ?_
  refine lv_lload hx hb dX4_takeOff_30 (lv_at hl 0 rfl) ?_
  refine lv_lneg hx hb dX4_takeOff_32 ?_
  refine call_V (n := 4) (As := [.int 0, .int p0, .int p1, .long (-x3)]) (rest := []) hX hB (k_X3_addLine κ l a r q f 6 0 p0 p1 (-x3) (by decide)) ⟨rfl, by decide, by decide, by decide +kernel⟩ wm_2_22 wm_2_23 wm_2_24 wm_1_2 wm_2_25 ⟨Nat.le_of_ble_eq_true rfl, Nat.le_of_ble_eq_true rfl⟩ ⟨Nat.le_of_ble_eq_true rfl, Nat.le_of_ble_eq_true rfl⟩ (cwG (i := 6) (by decide)) rfl rfl rfl hl.1 rfl (Nat.le_of_ble_eq_true rfl) dX4_takeOff_33 (fun o w' H locs hp hB => ?_)
  obtain ⟨f4, rfl, rfl⟩ := hp
  refine W.eq (g2 := F0 m 36 ls []) rfl ?_
  refine lv_aload_n hx hb dX4_takeOff_36 rfl (lv_at hl 1 rfl) ?_
  refine gf hX hB cw2 rfl in4 1 (by decide) wm_1_76 rfl rfl dX4_takeOff_37 ?_
  refine lv_iconst (v := 0) hx hb dX4_takeOff_40 (by decide) ?_
  refine lv_iload_n hx hb dX4_takeOff_41 rfl (lv_at hl 2 rfl) ?_
  refine lv_iload_n hx hb dX4_takeOff_42 rfl (lv_at hl 3 rfl) ?_
  refine lv_lload hx hb dX4_takeOff_43 (lv_at hl 0 rfl) ?_
  refine lv_lneg hx hb dX4_takeOff_45 ?_
  refine call_V (n := 4) (As := [.int 0, .int p0, .int p1, .long (-x3)]) (rest := []) hX hB (k_X3_addLine κ l a r q f4 7 0 p0 p1 (-x3) (by decide)) ⟨rfl, by decide, by decide, by decide +kernel⟩ wm_2_22 wm_2_23 wm_2_24 wm_1_2 wm_2_25 ⟨Nat.le_of_ble_eq_true rfl, Nat.le_of_ble_eq_true rfl⟩ ⟨Nat.le_of_ble_eq_true rfl, Nat.le_of_ble_eq_true rfl⟩ (cwG (i := 7) (by decide)) rfl rfl rfl hl.1 rfl (Nat.le_of_ble_eq_true rfl) dX4_takeOff_46 (fun o w' H locs hp hB => ?_)
  obtain ⟨f5, rfl, rfl⟩ := hp
  refine W.eq (g2 := F0 m 49 ls []) rfl ?_
  refine lv_aload_n hx hb dX4_takeOff_49 rfl (lv_at hl 1 rfl) ?_
  refine lv_aload_n hx hb dX4_takeOff_50 rfl (lv_at hl 1 rfl) ?_
  refine gf hX hB cw2 rfl in4 0 (by decide) wm_1_74 rfl rfl dX4_takeOff_51 ?_
  refine lv_ldc2 (own := RX4) (v := 1000000000) hx hb hX.1.2.2.2.1 (hX.1.2.2.2.2 _ wm_2_26) dX4_takeOff_54 ?_
  refine call_V (n := 1) (As := [.long 1000000000]) (rest := [.ref (a 2)]) hX hB (k_X3_isWithin κ l a r q f5 6 1000000000 (by decide)) ⟨rfl, by decide, by decide, by decide +kernel⟩ wm_2_27 wm_2_28 wm_2_29 wm_1_2 wm_2_30 ⟨Nat.le_of_ble_eq_true rfl, Nat.le_of_ble_eq_true rfl⟩ ⟨Nat.le_of_ble_eq_true rfl, Nat.le_of_ble_eq_true rfl⟩ (cwG (i := 6) (by decide)) rfl rfl rfl hl.1 rfl (Nat.le_of_ble_eq_true rfl) dX4_takeOff_57 (fun o w' H locs hp hB => ?_)
  obtain ⟨x6, rfl, bx6, rfl⟩ := hp
  refine W.eq (g2 := F0 m 60 ls [.int x6, .ref (a 2)]) rfl ?_
  refine lv_if_eq (tgt := 76) hx hb dX4_takeOff_60 (by decide) (fun c7 => ?_) (fun c7 => ?_)
  · refine lv_iconst (v := 1) hx hb dX4_takeOff_76 (by decide) ?_
    refine lv_goto (tgt := 81) hx hb dX4_takeOff_77 (by decide) ?_
    refine pf (ty := .boolean) hX hB cw2 rfl in4 tyX4_ok nmX4 2 (by decide) wm_1_78 rfl rfl rfl rfl rfl (Nat.le_of_ble_eq_true rfl) (cwSQ0 _) dX4_takeOff_81 (fun H locs hB => ?_)
    rw [← hQ]
    exact end_v hX hB hA3 rfl ⟨(va_up q 0 1), f5, rfl, rfl, rfl⟩ (Nat.le_of_ble_eq_true rfl) (Nat.le_of_ble_eq_true rfl) dX4_takeOff_84
  · refine lv_aload_n hx hb dX4_takeOff_63 rfl (lv_at hl 1 rfl) ?_
    refine gf hX hB cw2 rfl in4 1 (by decide) wm_1_76 rfl rfl dX4_takeOff_64 ?_
    refine lv_ldc2 (own := RX4) (v := 1000000000) hx hb hX.1.2.2.2.1 (hX.1.2.2.2.2 _ wm_2_26) dX4_takeOff_67 ?_
    refine call_V (n := 1) (As := [.long 1000000000]) (rest := [.ref (a 2)]) hX hB (k_X3_isWithin κ l a r q f5 7 1000000000 (by decide)) ⟨rfl, by decide, by decide, by decide +kernel⟩ wm_2_27 wm_2_28 wm_2_29 wm_1_2 wm_2_30 ⟨Nat.le_of_ble_eq_true rfl, Nat.le_of_ble_eq_true rfl⟩ ⟨Nat.le_of_ble_eq_true rfl, Nat.le_of_ble_eq_true rfl⟩ (cwG (i := 7) (by decide)) rfl rfl rfl hl.1 rfl (Nat.le_of_ble_eq_true rfl) dX4_takeOff_70 (fun o w' H locs hp hB => ?_)
    obtain ⟨x8, rfl, bx8, rfl⟩ := hp
    refine W.eq (g2 := F0 m 73 ls [.int x8, .ref (a 2)]) rfl ?_
    refine lv_if_ne (tgt := 80) hx hb dX4_takeOff_73 (by decide) (fun c9 => ?_) (fun c9 => ?_)
    · refine lv_iconst (v := 0) hx hb dX4_takeOff_80 (by decide) ?_
      refine pf (ty := .boolean) hX hB cw2 rfl in4 tyX4_ok nmX4 2 (by decide) wm_1_78 rfl rfl rfl rfl rfl (Nat.le_of_ble_eq_true rfl) (cwSQ0 _) dX4_takeOff_81 (fun H locs hB => ?_)
      rw [← hQ]
      exact end_v hX hB hA3 rfl ⟨(va_up q 0 0), f5, rfl, rfl, rfl⟩ (Nat.le_of_ble_eq_true rfl) (Nat.le_of_ble_eq_true rfl) dX4_takeOff_84
    · refine lv_iconst (v := 1) hx hb dX4_takeOff_76 (by decide) ?_
      refine lv_goto (tgt := 81) hx hb dX4_takeOff_77 (by decide) ?_
      refine pf (ty := .boolean) hX hB cw2 rfl in4 tyX4_ok nmX4 2 (by decide) wm_1_78 rfl rfl rfl rfl rfl (Nat.le_of_ble_eq_true rfl) (cwSQ0 _) dX4_takeOff_81 (fun H locs hB => ?_)
      rw [← hQ]
      exact end_v hX hB hA3 rfl ⟨(va_up q 0 1), f5, rfl, rfl, rfl⟩ (Nat.le_of_ble_eq_true rfl) (Nat.le_of_ble_eq_true rfl) dX4_takeOff_84
set_option maxHeartbeats 4000000 in
set_option maxRecDepth 100000 in
theorem k_X4_isClearBelow (κ : Kt) (l : Launch) (a : Nat → Nat) (r q : Nat → Int32) (f : Nat → Nat → Int64) (p0 : Int32) (p1 : Int32)  : CM κ l yX4_isClearBelow cX4_isClearBelow 4 (some .boolean) 1 22 0 0 [.ref (a 2), .int p0, .int p1] (cw κ a r q f) (fun o w' => ∃ x : Int32, o = some (.int x) ∧ (x = 0 ∨ x = 1) ∧ w' = cw κ a r q f) := by
  refine CM_begin (plainFor_of_name (by decide)) (Nat.le_of_ble_eq_true rfl) ?_
  intro p e s m args below meth c A Q hX hnm hA3 hQ hB ls hl
  have hx := hX.1.1
  have hb := hX.1.2.1
  have hl : lv_has ls 4 [(0, .ref (a 2)), (1, .int p0), (2, .int p1)] := hl
  refine lv_iload_n hx hb dX4_isClearBelow_0 rfl (lv_at hl 1 rfl) ?_
  refine lv_iconst (v := 1) hx hb dX4_isClearBelow_1 (by decide) ?_
  refine lv_iadd hx hb dX4_isClearBelow_2 ?_
  refine lv_istore_n (lv' := [(3, .int (p0 + 1)), (0, .ref (a 2)), (1, .int p0), (2, .int p1)]) hx hb dX4_isClearBelow_3 rfl hl (by decide) rfl (fun ls hl => ?_)
  have lp4 : ∀ (nn : Nat) (y3_4 : Int32) (H : Heap) (locs : List Loc), gap (r (2 * 6)) y3_4 < nn → Bd κ A s (cw κ a r q f) H locs → ∀ ls : Array Slot, lv_has ls 4 [(3, .int y3_4), (0, .ref (a 2)), (1, .int p0), (2, .int p1)] → W p l e (Rm 1 22 0 0) s m args below meth c H locs 0 0 Q (F0 m 4 ls []) := by
    intro nn
    induction nn with
    | zero => intro y3_4 H locs hμ; exact absurd hμ (Nat.not_lt_zero _)
    | succ nn ih4 =>
      intro y3_4 H locs hμ4 hB ls hl
      refine lv_iload_n hx hb dX4_isClearBelow_4 rfl (lv_at hl 0 rfl) ?_
      refine lv_aload_n hx hb dX4_isClearBelow_5 rfl (lv_at hl 1 rfl) ?_
      refine gf hX hB cw2 rfl in4 0 (by decide) wm_1_74 rfl rfl dX4_isClearBelow_6 ?_
      refine gfN hX hB (cwG (i := 6) (by decide)) rfl in3 1 (by decide) wn_1_48 rfl rfl dX4_isClearBelow_9 ?_
      refine lv_icmp_ge (tgt := 37) hx hb dX4_isClearBelow_12 (by decide) (fun c7 => ?_) (fun c7 => ?_)
      · refine lv_iconst (v := 1) hx hb dX4_isClearBelow_37 (by decide) ?_
        rw [← hQ]
        exact end_i hX hB hA3 rfl rfl ⟨1, rfl, Or.inr rfl, rfl⟩ (Nat.le_of_ble_eq_true rfl) (Nat.le_of_ble_eq_true rfl) dX4_isClearBelow_38
      · refine lv_aload_n hx hb dX4_isClearBelow_15 rfl (lv_at hl 1 rfl) ?_
        refine gf hX hB cw2 rfl in4 0 (by decide) wm_1_74 rfl rfl dX4_isClearBelow_16 ?_
        refine lv_iload_n hx hb dX4_isClearBelow_19 rfl (lv_at hl 0 rfl) ?_
        refine lv_iload_n hx hb dX4_isClearBelow_20 rfl (lv_at hl 3 rfl) ?_
        refine call_V (n := 2) (As := [.int y3_4, .int p1]) (rest := []) hX hB (k_X3_get κ l a r q f 6 y3_4 p1 (by decide)) ⟨rfl, by decide, by decide, by decide +kernel⟩ wm_1_235 wm_1_187 wm_1_188 wm_1_2 wm_1_189 ⟨Nat.le_of_ble_eq_true rfl, Nat.le_of_ble_eq_true rfl⟩ ⟨Nat.le_of_ble_eq_true rfl, Nat.le_of_ble_eq_true rfl⟩ (cwG (i := 6) (by decide)) rfl rfl rfl hl.1 rfl (Nat.le_of_ble_eq_true rfl) dX4_isClearBelow_21 (fun o w' H locs hp hB => ?_)
        obtain ⟨x8, rfl, rfl⟩ := hp
        refine W.eq (g2 := F0 m 24 ls [.long x8]) rfl ?_
        refine lv_lconst (v := 0) hx hb dX4_isClearBelow_24 (by decide) ?_
        refine W.lcmp hx hb dX4_isClearBelow_25 ?_
        refine lv_if_eq (tgt := 31) hx hb dX4_isClearBelow_26 (by decide) (fun c9 => ?_) (fun c9 => ?_)
        · refine lv_iinc (v := y3_4 + 1) (lv' := [(3, .int (y3_4 + 1)), (0, .ref (a 2)), (1, .int p0), (2, .int p1)]) hx hb dX4_isClearBelow_31 hl (k := 0) rfl rfl (by decide) rfl (fun ls hl => ?_)
          refine lv_goto (tgt := 4) hx hb dX4_isClearBelow_34 (by decide) ?_
          exact ih4 (y3_4 + 1) _ _  (gap_step c7 hμ4) hB _ hl
        · refine lv_iconst (v := 0) hx hb dX4_isClearBelow_29 (by decide) ?_
          rw [← hQ]
          exact end_i hX hB hA3 rfl rfl ⟨0, rfl, Or.inl rfl, rfl⟩ (Nat.le_of_ble_eq_true rfl) (Nat.le_of_ble_eq_true rfl) dX4_isClearBelow_30
  exact lp4 _ (p0 + 1) _ _  (Nat.lt_succ_self _) hB _ hl
set_option maxHeartbeats 4000000 in
set_option maxRecDepth 100000 in
theorem k_X4_clearColumn (κ : Kt) (l : Launch) (a : Nat → Nat) (r q : Nat → Int32) (f : Nat → Nat → Int64) (p0 : Int32) (p1 : Int32)  : CM κ l yX4_clearColumn cX4_clearColumn 6 (some .boolean) 3 76 0 0 [.ref (a 2), .int p0, .int p1] (cw κ a r q f) (fun o w' => ∃ x : Int32, ∃ (q' : Nat → Int32) (f' : Nat → Nat → Int64), o = some (.int x) ∧ (x = 0 ∨ x = 1) ∧ q' 4 = q 4 ∧ w' = cw κ a r q' f') := by
  refine CM_begin (plainFor_of_name (by decide)) (Nat.le_of_ble_eq_true rfl) ?_
  intro p e s m args below meth c A Q hX hnm hA3 hQ hB ls hl
  have hx := hX.1.1
  have hb := hX.1.2.1
  have hl : lv_has ls 6 [(0, .ref (a 2)), (1, .int p0), (2, .int p1)] := hl
  refine lv_iconst (v := 0) hx hb dX4_clearColumn_0 (by decide) ?_
  refine lv_istore_n (lv' := [(3, .int 0), (0, .ref (a 2)), (1, .int p0), (2, .int p1)]) hx hb dX4_clearColumn_1 rfl hl (by decide) rfl (fun ls hl => ?_)
  have lp2 : ∀ (nn : Nat) (y3_2 : Int32) (q_2 : Nat → Int32) (f_2 : Nat → Nat → Int64) (H : Heap) (locs : List Loc), q_2 4 = q 4 → gap 1000000 y3_2 < nn → Bd κ A s (cw κ a r q_2 f_2) H locs → ∀ ls : Array Slot, lv_has ls 6 [(3, .int y3_2), (0, .ref (a 2)), (1, .int p0), (2, .int p1)] → W p l e (Rm 3 76 0 0) s m args below meth c H locs 0 0 Q (F0 m 2 ls []) := by
    intro nn
    induction nn with
    | zero => intro y3_2 q_2 f_2 H locs hwq_2 hμ; exact absurd hμ (Nat.not_lt_zero _)
    | succ nn ih2 =>
      intro y3_2 q_2 f_2 H locs hwq_2 hμ2 hB ls hl
      refine lv_iload_n hx hb dX4_clearColumn_2 rfl (lv_at hl 0 rfl) ?_
      refine lv_ldc (own := RX4) (v := 1000000) hx hb hX.1.2.2.2.1 (hX.1.2.2.2.2 _ wm_1_230) dX4_clearColumn_3 ?_
      refine lv_icmp_ge (tgt := 130) hx hb dX4_clearColumn_5 (by decide) (fun c179 => ?_) (fun c179 => ?_)
      · refine lv_iconst (v := 0) hx hb dX4_clearColumn_130 (by decide) ?_
        rw [← hQ]
        exact end_i hX hB hA3 rfl rfl ⟨0, q_2, f_2, rfl, Or.inl rfl, hwq_2, rfl⟩ (Nat.le_of_ble_eq_true rfl) (Nat.le_of_ble_eq_true rfl) dX4_clearColumn_131
      · refine lv_aload_n hx hb dX4_clearColumn_8 rfl (lv_at hl 1 rfl) ?_
        refine gf hX hB cw2 rfl in4 2 (by decide) wm_1_78 rfl rfl dX4_clearColumn_9 ?_
        refine lv_if_ne (tgt := 130) hx hb dX4_clearColumn_12 (by decide) (fun c180 => ?_) (fun c180 => ?_)
        · refine lv_iconst (v := 0) hx hb dX4_clearColumn_130 (by decide) ?_
          rw [← hQ]
          exact end_i hX hB hA3 rfl rfl ⟨0, q_2, f_2, rfl, Or.inl rfl, hwq_2, rfl⟩ (Nat.le_of_ble_eq_true rfl) (Nat.le_of_ble_eq_true rfl) dX4_clearColumn_131
        · refine lv_aload_n hx hb dX4_clearColumn_15 rfl (lv_at hl 1 rfl) ?_
          refine lv_iload_n hx hb dX4_clearColumn_16 rfl (lv_at hl 2 rfl) ?_
          refine lv_iload_n hx hb dX4_clearColumn_17 rfl (lv_at hl 3 rfl) ?_
          refine call_V (n := 2) (As := [.int p0, .int p1]) (rest := []) hX hB (k_X4_findLeastRow κ l a r q_2 f_2 p0 p1) ⟨rfl, by decide, by decide, by decide +kernel⟩ wm_1_231 wm_1_233 wp_2 wm_1_3 wm_1_234 ⟨Nat.le_of_ble_eq_true rfl, Nat.le_of_ble_eq_true rfl⟩ ⟨Nat.le_of_ble_eq_true rfl, Nat.le_of_ble_eq_true rfl⟩ cw2 rfl rfl rfl hl.1 rfl (Nat.le_of_ble_eq_true rfl) dX4_clearColumn_18 (fun o w' H locs hp hB => ?_)
          obtain ⟨x181, rfl, rfl⟩ := hp
          refine W.eq (g2 := F0 m 21 ls [.int x181]) rfl ?_
          refine lv_istore (lv' := [(4, .int x181), (3, .int y3_2), (0, .ref (a 2)), (1, .int p0), (2, .int p1)]) hx hb dX4_clearColumn_21 hl (by decide) rfl (fun ls hl => ?_)
          refine lv_iload hx hb dX4_clearColumn_23 (lv_at hl 0 rfl) ?_
          refine lv_if_ge (tgt := 30) hx hb dX4_clearColumn_25 (by decide) (fun c182 => ?_) (fun c182 => ?_)
          · refine lv_aload_n hx hb dX4_clearColumn_30 rfl (lv_at hl 2 rfl) ?_
            refine lv_iload hx hb dX4_clearColumn_31 (lv_at hl 0 rfl) ?_
            refine lv_iload_n hx hb dX4_clearColumn_33 rfl (lv_at hl 3 rfl) ?_
            refine lv_iload_n hx hb dX4_clearColumn_34 rfl (lv_at hl 4 rfl) ?_
            refine call_V (n := 3) (As := [.int x181, .int p0, .int p1]) (rest := []) hX hB (k_X4_bring κ l a r q_2 f_2 x181 p0 p1) ⟨rfl, by decide, by decide, by decide +kernel⟩ wm_1_239 wm_2_1 wp_3 wm_1_3 wm_2_2 ⟨Nat.le_of_ble_eq_true rfl, Nat.le_of_ble_eq_true rfl⟩ ⟨Nat.le_of_ble_eq_true rfl, Nat.le_of_ble_eq_true rfl⟩ cw2 rfl rfl rfl hl.1 rfl (Nat.le_of_ble_eq_true rfl) dX4_clearColumn_35 (fun o w' H locs hp hB => ?_)
            obtain ⟨f183, rfl, rfl⟩ := hp
            refine W.eq (g2 := F0 m 38 ls []) rfl ?_
            refine lv_iload_n hx hb dX4_clearColumn_38 rfl (lv_at hl 3 rfl) ?_
            refine lv_iconst (v := 1) hx hb dX4_clearColumn_39 (by decide) ?_
            refine lv_iadd hx hb dX4_clearColumn_40 ?_
            refine lv_istore (lv' := [(5, .int (p0 + 1)), (4, .int x181), (3, .int y3_2), (0, .ref (a 2)), (1, .int p0), (2, .int p1)]) hx hb dX4_clearColumn_41 hl (by decide) rfl (fun ls hl => ?_)
            have lp43 : ∀ (nn : Nat) (y5_43 : Int32) (q_43 : Nat → Int32) (f_43 : Nat → Nat → Int64) (H : Heap) (locs : List Loc), q_43 4 = q 4 → gap (r (2 * 6)) y5_43 < nn → Bd κ A s (cw κ a r q_43 f_43) H locs → ∀ ls : Array Slot, lv_has ls 6 [(5, .int y5_43), (4, .int x181), (3, .int y3_2), (0, .ref (a 2)), (1, .int p0), (2, .int p1)] → W p l e (Rm 3 76 0 0) s m args below meth c H locs 0 0 Q (F0 m 43 ls []) := by
              intro nn
              induction nn with
              | zero => intro y5_43 q_43 f_43 H locs hwq_43 hμ; exact absurd hμ (Nat.not_lt_zero _)
              | succ nn ih43 =>
                intro y5_43 q_43 f_43 H locs hwq_43 hμ43 hB ls hl
                refine lv_iload hx hb dX4_clearColumn_43 (lv_at hl 0 rfl) ?_
                refine lv_aload_n hx hb dX4_clearColumn_45 rfl (lv_at hl 3 rfl) ?_
                refine gf hX hB cw2 rfl in4 0 (by decide) wm_1_74 rfl rfl dX4_clearColumn_46 ?_
                refine gfN hX hB (cwG (i := 6) (by decide)) rfl in3 1 (by decide) wn_1_48 rfl rfl dX4_clearColumn_49 ?_
                have jn76 : ∀ (H : Heap) (locs : List Loc), Bd κ A s (cw κ a r q_43 f_43) H locs → ∀ ls : Array Slot, lv_has ls 6 [(5, .int y5_43), (4, .int x181), (3, .int y3_2), (0, .ref (a 2)), (1, .int p0), (2, .int p1)] → W p l e (Rm 3 76 0 0) s m args below meth c H locs 0 0 Q (F0 m 76 ls []) := by
                  intro H locs hB ls hl
                  refine lv_aload_n hx hb dX4_clearColumn_76 rfl (lv_at hl 3 rfl) ?_
                  refine gf hX hB cw2 rfl in4 2 (by decide) wm_1_78 rfl rfl dX4_clearColumn_77 ?_
                  refine lv_if_ne (tgt := 124) hx hb dX4_clearColumn_80 (by decide) (fun c245 => ?_) (fun c245 => ?_)
                  · refine lv_iinc (v := y3_2 + 1) (lv' := [(3, .int (y3_2 + 1)), (5, .int y5_43), (4, .int x181), (0, .ref (a 2)), (1, .int p0), (2, .int p1)]) hx hb dX4_clearColumn_124 hl (k := 2) rfl rfl (by decide) rfl (fun ls hl => ?_)
                    refine lv_goto (tgt := 2) hx hb dX4_clearColumn_127 (by decide) ?_
                    exact ih2 (y3_2 + 1) q_43 f_43 _ _ hwq_43 (gap_step c179 hμ2) hB _ (lv_sub hl [0, 3, 4, 5] rfl)
                  · refine lv_aload_n hx hb dX4_clearColumn_83 rfl (lv_at hl 3 rfl) ?_
                    refine lv_iload_n hx hb dX4_clearColumn_84 rfl (lv_at hl 4 rfl) ?_
                    refine lv_iload_n hx hb dX4_clearColumn_85 rfl (lv_at hl 5 rfl) ?_
                    refine call_V (n := 2) (As := [.int p0, .int p1]) (rest := []) hX hB (k_X4_isClearBelow κ l a r q_43 f_43 p0 p1) ⟨rfl, by decide, by decide, by decide +kernel⟩ wm_2_32 wm_2_34 wp_5 wm_1_3 wm_2_35 ⟨Nat.le_of_ble_eq_true rfl, Nat.le_of_ble_eq_true rfl⟩ ⟨Nat.le_of_ble_eq_true rfl, Nat.le_of_ble_eq_true rfl⟩ cw2 rfl rfl rfl hl.1 rfl (Nat.le_of_ble_eq_true rfl) dX4_clearColumn_86 (fun o w' H locs hp hB => ?_)
                    obtain ⟨x246, rfl, bx246, rfl⟩ := hp
                    refine W.eq (g2 := F0 m 89 ls [.int x246]) rfl ?_
                    refine lv_if_eq (tgt := 124) hx hb dX4_clearColumn_89 (by decide) (fun c247 => ?_) (fun c247 => ?_)
                    · refine lv_iinc (v := y3_2 + 1) (lv' := [(3, .int (y3_2 + 1)), (5, .int y5_43), (4, .int x181), (0, .ref (a 2)), (1, .int p0), (2, .int p1)]) hx hb dX4_clearColumn_124 hl (k := 2) rfl rfl (by decide) rfl (fun ls hl => ?_)
                      refine lv_goto (tgt := 2) hx hb dX4_clearColumn_127 (by decide) ?_
                      exact ih2 (y3_2 + 1) q_43 f_43 _ _ hwq_43 (gap_step c179 hμ2) hB _ (lv_sub hl [0, 3, 4, 5] rfl)
                    · refine lv_iconst (v := 0) hx hb dX4_clearColumn_92 (by decide) ?_
                      refine lv_istore (lv' := [(5, .int 0), (4, .int x181), (3, .int y3_2), (0, .ref (a 2)), (1, .int p0), (2, .int p1)]) hx hb dX4_clearColumn_93 hl (by decide) rfl (fun ls hl => ?_)
                      have lp95 : ∀ (nn : Nat) (y5_95 : Int32) (q_95 : Nat → Int32) (f_95 : Nat → Nat → Int64) (H : Heap) (locs : List Loc), q_95 4 = q 4 → gap p0 y5_95 < nn → Bd κ A s (cw κ a r q_95 f_95) H locs → ∀ ls : Array Slot, lv_has ls 6 [(5, .int y5_95), (4, .int x181), (3, .int y3_2), (0, .ref (a 2)), (1, .int p0), (2, .int p1)] → W p l e (Rm 3 76 0 0) s m args below meth c H locs 0 0 Q (F0 m 95 ls []) := by
                        intro nn
                        induction nn with
                        | zero => intro y5_95 q_95 f_95 H locs hwq_95 hμ; exact absurd hμ (Nat.not_lt_zero _)
                        | succ nn ih95 =>
                          intro y5_95 q_95 f_95 H locs hwq_95 hμ95 hB ls hl
                          refine lv_iload hx hb dX4_clearColumn_95 (lv_at hl 0 rfl) ?_
                          refine lv_iload_n hx hb dX4_clearColumn_97 rfl (lv_at hl 4 rfl) ?_
                          refine lv_icmp_ge (tgt := 122) hx hb dX4_clearColumn_98 (by decide) (fun c258 => ?_) (fun c258 => ?_)
                          · refine lv_iconst (v := 1) hx hb dX4_clearColumn_122 (by decide) ?_
                            rw [← hQ]
                            exact end_i hX hB hA3 rfl rfl ⟨1, q_95, f_95, rfl, Or.inr rfl, hwq_95, rfl⟩ (Nat.le_of_ble_eq_true rfl) (Nat.le_of_ble_eq_true rfl) dX4_clearColumn_123
                          · refine lv_aload_n hx hb dX4_clearColumn_101 rfl (lv_at hl 3 rfl) ?_
                            refine gf hX hB cw2 rfl in4 2 (by decide) wm_1_78 rfl rfl dX4_clearColumn_102 ?_
                            refine lv_if_ne (tgt := 122) hx hb dX4_clearColumn_105 (by decide) (fun c259 => ?_) (fun c259 => ?_)
                            · refine lv_iconst (v := 1) hx hb dX4_clearColumn_122 (by decide) ?_
                              rw [← hQ]
                              exact end_i hX hB hA3 rfl rfl ⟨1, q_95, f_95, rfl, Or.inr rfl, hwq_95, rfl⟩ (Nat.le_of_ble_eq_true rfl) (Nat.le_of_ble_eq_true rfl) dX4_clearColumn_123
                            · refine lv_aload_n hx hb dX4_clearColumn_108 rfl (lv_at hl 3 rfl) ?_
                              refine lv_iload hx hb dX4_clearColumn_109 (lv_at hl 0 rfl) ?_
                              refine lv_iload_n hx hb dX4_clearColumn_111 rfl (lv_at hl 4 rfl) ?_
                              refine lv_iload_n hx hb dX4_clearColumn_112 rfl (lv_at hl 5 rfl) ?_
                              refine call_V (n := 3) (As := [.int y5_95, .int p0, .int p1]) (rest := []) hX hB (k_X4_takeOff κ l a r q_95 f_95 y5_95 p0 p1) ⟨rfl, by decide, by decide, by decide +kernel⟩ wm_2_12 wm_2_14 wp_4 wm_1_3 wm_2_15 ⟨Nat.le_of_ble_eq_true rfl, Nat.le_of_ble_eq_true rfl⟩ ⟨Nat.le_of_ble_eq_true rfl, Nat.le_of_ble_eq_true rfl⟩ cw2 rfl rfl rfl hl.1 rfl (Nat.le_of_ble_eq_true rfl) dX4_clearColumn_113 (fun o w' H locs hp hB => ?_)
                              obtain ⟨q260, f262, rfl, hq261, rfl⟩ := hp
                              refine W.eq (g2 := F0 m 116 ls []) rfl ?_
                              refine lv_iinc (v := y5_95 + 1) (lv' := [(5, .int (y5_95 + 1)), (4, .int x181), (3, .int y3_2), (0, .ref (a 2)), (1, .int p0), (2, .int p1)]) hx hb dX4_clearColumn_116 hl (k := 0) rfl rfl (by decide) rfl (fun ls hl => ?_)
                              refine lv_goto (tgt := 95) hx hb dX4_clearColumn_119 (by decide) ?_
                              exact ih95 (y5_95 + 1) q260 f262 _ _ (hq261.trans hwq_95) (gap_step c258 hμ95) hB _ hl
                      exact lp95 _ 0 q_43 f_43 _ _ hwq_43 (Nat.lt_succ_self _) hB _ hl
                refine lv_icmp_ge (tgt := 76) hx hb dX4_clearColumn_52 (by decide) (fun c263 => ?_) (fun c263 => ?_)
                · exact jn76  _ _  hB _ hl
                · refine lv_aload_n hx hb dX4_clearColumn_55 rfl (lv_at hl 3 rfl) ?_
                  refine gf hX hB cw2 rfl in4 2 (by decide) wm_1_78 rfl rfl dX4_clearColumn_56 ?_
                  refine lv_if_ne (tgt := 76) hx hb dX4_clearColumn_59 (by decide) (fun c264 => ?_) (fun c264 => ?_)
                  · exact jn76  _ _  hB _ hl
                  · refine lv_aload_n hx hb dX4_clearColumn_62 rfl (lv_at hl 3 rfl) ?_
                    refine lv_iload hx hb dX4_clearColumn_63 (lv_at hl 0 rfl) ?_
                    refine lv_iload_n hx hb dX4_clearColumn_65 rfl (lv_at hl 4 rfl) ?_
                    refine lv_iload_n hx hb dX4_clearColumn_66 rfl (lv_at hl 5 rfl) ?_
                    refine call_V (n := 3) (As := [.int y5_43, .int p0, .int p1]) (rest := []) hX hB (k_X4_takeOff κ l a r q_43 f_43 y5_43 p0 p1) ⟨rfl, by decide, by decide, by decide +kernel⟩ wm_2_12 wm_2_14 wp_4 wm_1_3 wm_2_15 ⟨Nat.le_of_ble_eq_true rfl, Nat.le_of_ble_eq_true rfl⟩ ⟨Nat.le_of_ble_eq_true rfl, Nat.le_of_ble_eq_true rfl⟩ cw2 rfl rfl rfl hl.1 rfl (Nat.le_of_ble_eq_true rfl) dX4_clearColumn_67 (fun o w' H locs hp hB => ?_)
                    obtain ⟨q265, f267, rfl, hq266, rfl⟩ := hp
                    refine W.eq (g2 := F0 m 70 ls []) rfl ?_
                    refine lv_iinc (v := y5_43 + 1) (lv' := [(5, .int (y5_43 + 1)), (4, .int x181), (3, .int y3_2), (0, .ref (a 2)), (1, .int p0), (2, .int p1)]) hx hb dX4_clearColumn_70 hl (k := 0) rfl rfl (by decide) rfl (fun ls hl => ?_)
                    refine lv_goto (tgt := 43) hx hb dX4_clearColumn_73 (by decide) ?_
                    exact ih43 (y5_43 + 1) q265 f267 _ _ (hq266.trans hwq_43) (gap_step c263 hμ43) hB _ hl
            exact lp43 _ (p0 + 1) q_2 f183 _ _ hwq_2 (Nat.lt_succ_self _) hB _ hl
          · refine lv_iconst (v := 0) hx hb dX4_clearColumn_28 (by decide) ?_
            rw [← hQ]
            exact end_i hX hB hA3 rfl rfl ⟨0, q_2, f_2, rfl, Or.inl rfl, hwq_2, rfl⟩ (Nat.le_of_ble_eq_true rfl) (Nat.le_of_ble_eq_true rfl) dX4_clearColumn_29
  exact lp2 _ 0 q f _ _ rfl (Nat.lt_succ_self _) hB _ hl
set_option maxHeartbeats 4000000 in
set_option maxRecDepth 100000 in
theorem k_X4_walk (κ : Kt) (l : Launch) (a : Nat → Nat) (r q : Nat → Int32) (f : Nat → Nat → Int64) (i : Nat) (hi : i < 15) : CM κ l yX4_walk cX4_walk 4 (none) 4 101 0 0 [.ref (a 2), .ref (a (6 + 2 * i))] (cw κ a r q f) (fun o w' => ∃ (r' q' : Nat → Int32) (f' : Nat → Nat → Int64), o = none ∧ (okr r → okr r') ∧ q' 4 = q 4 ∧ w' = cw κ a r' q' f') := by
  refine CM_begin (plainFor_of_name (by decide)) (Nat.le_of_ble_eq_true rfl) ?_
  intro p e s m args below meth c A Q hX hnm hA3 hQ hB ls hl
  have hx := hX.1.1
  have hb := hX.1.2.1
  have hl : lv_has ls 4 [(0, .ref (a 2)), (1, .ref (a (6 + 2 * i)))] := hl
  refine lv_aload_n hx hb dX4_walk_0 rfl (lv_at hl 0 rfl) ?_
  refine gf hX hB cw2 rfl in4 0 (by decide) wm_1_74 rfl rfl dX4_walk_1 ?_
  refine lv_aload_n hx hb dX4_walk_4 rfl (lv_at hl 1 rfl) ?_
  refine call_V (n := 1) (As := [.ref (a (6 + 2 * i))]) (rest := []) hX hB (k_X3_becomeLike κ l a r q f 6 i (by decide) hi) ⟨rfl, by decide, by decide, by decide +kernel⟩ wm_1_204 wm_1_205 wm_1_206 wm_1_2 wm_1_207 ⟨Nat.le_of_ble_eq_true rfl, Nat.le_of_ble_eq_true rfl⟩ ⟨Nat.le_of_ble_eq_true rfl, Nat.le_of_ble_eq_true rfl⟩ (cwG (i := 6) (by decide)) rfl rfl rfl hl.1 rfl (Nat.le_of_ble_eq_true rfl) dX4_walk_5 (fun o w' H locs hp hB => ?_)
  obtain ⟨r1, q3, f5, rfl, ho2, hq4, rfl⟩ := hp
  refine W.eq (g2 := F0 m 8 ls []) rfl ?_
  refine lv_aload_n hx hb dX4_walk_8 rfl (lv_at hl 0 rfl) ?_
  refine gf hX hB cw2 rfl in4 1 (by decide) wm_1_76 rfl rfl dX4_walk_9 ?_
  refine lv_aload_n hx hb dX4_walk_12 rfl (lv_at hl 1 rfl) ?_
  refine gfN hX hB (cwG (i := i) hi) rfl in3 1 (by decide) wn_1_48 rfl rfl dX4_walk_13 ?_
  refine call_V (n := 1) (As := [.int (r1 (2 * i))]) (rest := []) hX hB (k_X3_becomeUnit κ l a r1 q3 f5 7 (r1 (2 * i)) (by decide)) ⟨rfl, by decide, by decide, by decide +kernel⟩ wm_1_208 wm_1_209 wm_1_210 wm_1_2 wm_1_211 ⟨Nat.le_of_ble_eq_true rfl, Nat.le_of_ble_eq_true rfl⟩ ⟨Nat.le_of_ble_eq_true rfl, Nat.le_of_ble_eq_true rfl⟩ (cwG (i := 7) (by decide)) rfl rfl rfl hl.1 rfl (Nat.le_of_ble_eq_true rfl) dX4_walk_16 (fun o w' H locs hp hB => ?_)
  obtain ⟨r6, q8, f10, rfl, ho7, hq9, rfl⟩ := hp
  refine W.eq (g2 := F0 m 19 ls []) rfl ?_
  refine lv_aload_n hx hb dX4_walk_19 rfl (lv_at hl 0 rfl) ?_
  refine lv_iconst (v := 0) hx hb dX4_walk_20 (by decide) ?_
  refine pf (ty := .boolean) hX hB cw2 rfl in4 tyX4_ok nmX4 2 (by decide) wm_1_78 rfl rfl rfl rfl rfl (Nat.le_of_ble_eq_true rfl) (cwSQ0 _) dX4_walk_21 (fun H locs hB => ?_)
  refine lv_iconst (v := 0) hx hb dX4_walk_24 (by decide) ?_
  refine lv_istore_n (lv' := [(2, .int 0), (0, .ref (a 2)), (1, .ref (a (6 + 2 * i)))]) hx hb dX4_walk_25 rfl hl (by decide) rfl (fun ls hl => ?_)
  refine lv_iconst (v := 0) hx hb dX4_walk_26 (by decide) ?_
  refine lv_istore_n (lv' := [(3, .int 0), (2, .int 0), (0, .ref (a 2)), (1, .ref (a (6 + 2 * i)))]) hx hb dX4_walk_27 rfl hl (by decide) rfl (fun ls hl => ?_)
  have lp28 : ∀ (nn : Nat) (y3_28 : Int32) (y2_28 : Int32) (q_28 : Nat → Int32) (f_28 : Nat → Nat → Int64) (H : Heap) (locs : List Loc), q_28 4 = q 4 → gap (r6 (2 * 6 + 1)) y3_28 < nn → Bd κ A s (cw κ a r6 q_28 f_28) H locs → ∀ ls : Array Slot, lv_has ls 4 [(3, .int y3_28), (2, .int y2_28), (0, .ref (a 2)), (1, .ref (a (6 + 2 * i)))] → W p l e (Rm 4 101 0 0) s m args below meth c H locs 0 0 Q (F0 m 28 ls []) := by
    intro nn
    induction nn with
    | zero => intro y3_28 y2_28 q_28 f_28 H locs hwq_28 hμ; exact absurd hμ (Nat.not_lt_zero _)
    | succ nn ih28 =>
      intro y3_28 y2_28 q_28 f_28 H locs hwq_28 hμ28 hB ls hl
      refine lv_iload_n hx hb dX4_walk_28 rfl (lv_at hl 0 rfl) ?_
      refine lv_aload_n hx hb dX4_walk_29 rfl (lv_at hl 2 rfl) ?_
      refine gf hX hB cw2 rfl in4 0 (by decide) wm_1_74 rfl rfl dX4_walk_30 ?_
      refine gfN hX hB (cwG (i := 6) (by decide)) rfl in3 2 (by decide) wn_1_56 rfl rfl dX4_walk_33 ?_
      refine lv_icmp_ge (tgt := 75) hx hb dX4_walk_36 (by decide) (fun c27 => ?_) (fun c27 => ?_)
      · rw [← hQ]
        exact end_v hX hB hA3 rfl ⟨r6, q_28, f_28, rfl, (fun h => ho7 ((fun h => ho2 ((fun h => h) h)) h)), hwq_28, rfl⟩ (Nat.le_of_ble_eq_true rfl) (Nat.le_of_ble_eq_true rfl) dX4_walk_75
      · refine lv_iload_n hx hb dX4_walk_39 rfl (lv_at hl 1 rfl) ?_
        refine lv_aload_n hx hb dX4_walk_40 rfl (lv_at hl 2 rfl) ?_
        refine gf hX hB cw2 rfl in4 0 (by decide) wm_1_74 rfl rfl dX4_walk_41 ?_
        refine gfN hX hB (cwG (i := 6) (by decide)) rfl in3 1 (by decide) wn_1_48 rfl rfl dX4_walk_44 ?_
        refine lv_icmp_ge (tgt := 75) hx hb dX4_walk_47 (by decide) (fun c28 => ?_) (fun c28 => ?_)
        · rw [← hQ]
          exact end_v hX hB hA3 rfl ⟨r6, q_28, f_28, rfl, (fun h => ho7 ((fun h => ho2 ((fun h => h) h)) h)), hwq_28, rfl⟩ (Nat.le_of_ble_eq_true rfl) (Nat.le_of_ble_eq_true rfl) dX4_walk_75
        · refine lv_aload_n hx hb dX4_walk_50 rfl (lv_at hl 2 rfl) ?_
          refine gf hX hB cw2 rfl in4 2 (by decide) wm_1_78 rfl rfl dX4_walk_51 ?_
          refine lv_if_ne (tgt := 75) hx hb dX4_walk_54 (by decide) (fun c29 => ?_) (fun c29 => ?_)
          · rw [← hQ]
            exact end_v hX hB hA3 rfl ⟨r6, q_28, f_28, rfl, (fun h => ho7 ((fun h => ho2 ((fun h => h) h)) h)), hwq_28, rfl⟩ (Nat.le_of_ble_eq_true rfl) (Nat.le_of_ble_eq_true rfl) dX4_walk_75
          · refine lv_aload_n hx hb dX4_walk_57 rfl (lv_at hl 2 rfl) ?_
            refine lv_iload_n hx hb dX4_walk_58 rfl (lv_at hl 1 rfl) ?_
            refine lv_iload_n hx hb dX4_walk_59 rfl (lv_at hl 0 rfl) ?_
            refine call_V (n := 2) (As := [.int y2_28, .int y3_28]) (rest := []) hX hB (k_X4_clearColumn κ l a r6 q_28 f_28 y2_28 y3_28) ⟨rfl, by decide, by decide, by decide +kernel⟩ wm_1_226 wm_1_228 wp_1 wm_1_3 wm_1_229 ⟨Nat.le_of_ble_eq_true rfl, Nat.le_of_ble_eq_true rfl⟩ ⟨Nat.le_of_ble_eq_true rfl, Nat.le_of_ble_eq_true rfl⟩ cw2 rfl rfl rfl hl.1 rfl (Nat.le_of_ble_eq_true rfl) dX4_walk_60 (fun o w' H locs hp hB => ?_)
            obtain ⟨x30, q31, f33, rfl, bx30, hq32, rfl⟩ := hp
            refine W.eq (g2 := F0 m 63 ls [.int x30]) rfl ?_
            refine lv_if_eq (tgt := 69) hx hb dX4_walk_63 (by decide) (fun c34 => ?_) (fun c34 => ?_)
            · refine lv_iinc (v := y3_28 + 1) (lv' := [(3, .int (y3_28 + 1)), (2, .int y2_28), (0, .ref (a 2)), (1, .ref (a (6 + 2 * i)))]) hx hb dX4_walk_69 hl (k := 0) rfl rfl (by decide) rfl (fun ls hl => ?_)
              refine lv_goto (tgt := 28) hx hb dX4_walk_72 (by decide) ?_
              exact ih28 (y3_28 + 1) y2_28 q31 f33 _ _ (hq32.trans hwq_28) (gap_step c27 hμ28) hB _ hl
            · refine lv_iinc (v := y2_28 + 1) (lv' := [(2, .int (y2_28 + 1)), (3, .int y3_28), (0, .ref (a 2)), (1, .ref (a (6 + 2 * i)))]) hx hb dX4_walk_66 hl (k := 1) rfl rfl (by decide) rfl (fun ls hl => ?_)
              refine lv_iinc (v := y3_28 + 1) (lv' := [(3, .int (y3_28 + 1)), (2, .int (y2_28 + 1)), (0, .ref (a 2)), (1, .ref (a (6 + 2 * i)))]) hx hb dX4_walk_69 hl (k := 1) rfl rfl (by decide) rfl (fun ls hl => ?_)
              refine lv_goto (tgt := 28) hx hb dX4_walk_72 (by decide) ?_
              exact ih28 (y3_28 + 1) (y2_28 + 1) q31 f33 _ _ (hq32.trans hwq_28) (gap_step c27 hμ28) hB _ hl
  exact lp28 _ 0 0 (va_up q8 0 0) f10 _ _ (hq9.trans (hq4.trans rfl)) (Nat.lt_succ_self _) hB _ hl
set_option maxHeartbeats 4000000 in
set_option maxRecDepth 100000 in
theorem k_X4_countFilledRows (κ : Kt) (l : Launch) (a : Nat → Nat) (r q : Nat → Int32) (f : Nat → Nat → Int64)  : CM κ l yX4_countFilledRows cX4_countFilledRows 5 (some .int) 1 22 0 0 [.ref (a 2)] (cw κ a r q f) (fun o w' => ∃ x : Int32, o = some (.int x) ∧ w' = cw κ a r q f) := by
  refine CM_begin (plainFor_of_name (by decide)) (Nat.le_of_ble_eq_true rfl) ?_
  intro p e s m args below meth c A Q hX hnm hA3 hQ hB ls hl
  have hx := hX.1.1
  have hb := hX.1.2.1
  have hl : lv_has ls 5 [(0, .ref (a 2))] := hl
  refine lv_iconst (v := 0) hx hb dX4_countFilledRows_0 (by decide) ?_
  refine lv_istore_n (lv' := [(1, .int 0), (0, .ref (a 2))]) hx hb dX4_countFilledRows_1 rfl hl (by decide) rfl (fun ls hl => ?_)
  refine lv_iconst (v := 0) hx hb dX4_countFilledRows_2 (by decide) ?_
  refine lv_istore_n (lv' := [(2, .int 0), (1, .int 0), (0, .ref (a 2))]) hx hb dX4_countFilledRows_3 rfl hl (by decide) rfl (fun ls hl => ?_)
  have lp4 : ∀ (nn : Nat) (y2_4 : Int32) (y1_4 : Int32) (H : Heap) (locs : List Loc), gap (r (2 * 6)) y2_4 < nn → Bd κ A s (cw κ a r q f) H locs → ∀ ls : Array Slot, lv_has ls 5 [(2, .int y2_4), (1, .int y1_4), (0, .ref (a 2))] → W p l e (Rm 1 22 0 0) s m args below meth c H locs 0 0 Q (F0 m 4 ls []) := by
    intro nn
    induction nn with
    | zero => intro y2_4 y1_4 H locs hμ; exact absurd hμ (Nat.not_lt_zero _)
    | succ nn ih4 =>
      intro y2_4 y1_4 H locs hμ4 hB ls hl
      refine lv_iload_n hx hb dX4_countFilledRows_4 rfl (lv_at hl 0 rfl) ?_
      refine lv_aload_n hx hb dX4_countFilledRows_5 rfl (lv_at hl 2 rfl) ?_
      refine gf hX hB cw2 rfl in4 0 (by decide) wm_1_74 rfl rfl dX4_countFilledRows_6 ?_
      refine gfN hX hB (cwG (i := 6) (by decide)) rfl in3 1 (by decide) wn_1_48 rfl rfl dX4_countFilledRows_9 ?_
      refine lv_icmp_ge (tgt := 81) hx hb dX4_countFilledRows_12 (by decide) (fun c57 => ?_) (fun c57 => ?_)
      · refine lv_iload_n hx hb dX4_countFilledRows_81 rfl (lv_at hl 1 rfl) ?_
        rw [← hQ]
        exact end_i hX hB hA3 rfl rfl ⟨y1_4, rfl, rfl⟩ (Nat.le_of_ble_eq_true rfl) (Nat.le_of_ble_eq_true rfl) dX4_countFilledRows_82
      · refine lv_iconst (v := 0) hx hb dX4_countFilledRows_15 (by decide) ?_
        refine lv_istore_n (lv' := [(3, .int 0), (2, .int y2_4), (1, .int y1_4), (0, .ref (a 2))]) hx hb dX4_countFilledRows_16 rfl hl (by decide) rfl (fun ls hl => ?_)
        refine lv_iconst (v := 0) hx hb dX4_countFilledRows_17 (by decide) ?_
        refine lv_istore (lv' := [(4, .int 0), (3, .int 0), (2, .int y2_4), (1, .int y1_4), (0, .ref (a 2))]) hx hb dX4_countFilledRows_18 hl (by decide) rfl (fun ls hl => ?_)
        have lp20 : ∀ (nn : Nat) (y4_20 : Int32) (y3_20 : Int32) (H : Heap) (locs : List Loc), gap (r (2 * 6 + 1)) y4_20 < nn → Bd κ A s (cw κ a r q f) H locs → ∀ ls : Array Slot, lv_has ls 5 [(4, .int y4_20), (3, .int y3_20), (2, .int y2_4), (1, .int y1_4), (0, .ref (a 2))] → W p l e (Rm 1 22 0 0) s m args below meth c H locs 0 0 Q (F0 m 20 ls []) := by
          intro nn
          induction nn with
          | zero => intro y4_20 y3_20 H locs hμ; exact absurd hμ (Nat.not_lt_zero _)
          | succ nn ih20 =>
            intro y4_20 y3_20 H locs hμ20 hB ls hl
            refine lv_iload hx hb dX4_countFilledRows_20 (lv_at hl 0 rfl) ?_
            refine lv_aload_n hx hb dX4_countFilledRows_22 rfl (lv_at hl 4 rfl) ?_
            refine gf hX hB cw2 rfl in4 0 (by decide) wm_1_74 rfl rfl dX4_countFilledRows_23 ?_
            refine gfN hX hB (cwG (i := 6) (by decide)) rfl in3 2 (by decide) wn_1_56 rfl rfl dX4_countFilledRows_26 ?_
            refine lv_icmp_ge (tgt := 63) hx hb dX4_countFilledRows_29 (by decide) (fun c80 => ?_) (fun c80 => ?_)
            · refine lv_iload_n hx hb dX4_countFilledRows_63 rfl (lv_at hl 3 rfl) ?_
              refine lv_iload_n hx hb dX4_countFilledRows_64 rfl (lv_at hl 1 rfl) ?_
              refine lv_if_eq (tgt := 72) hx hb dX4_countFilledRows_65 (by decide) (fun c81 => ?_) (fun c81 => ?_)
              · refine lv_iconst (v := 0) hx hb dX4_countFilledRows_72 (by decide) ?_
                refine lv_iadd hx hb dX4_countFilledRows_73 ?_
                refine lv_istore_n (lv' := [(1, .int (y1_4 + 0)), (4, .int y4_20), (3, .int y3_20), (2, .int y2_4), (0, .ref (a 2))]) hx hb dX4_countFilledRows_74 rfl hl (by decide) rfl (fun ls hl => ?_)
                refine lv_iinc (v := y2_4 + 1) (lv' := [(2, .int (y2_4 + 1)), (1, .int (y1_4 + 0)), (4, .int y4_20), (3, .int y3_20), (0, .ref (a 2))]) hx hb dX4_countFilledRows_75 hl (k := 3) rfl rfl (by decide) rfl (fun ls hl => ?_)
                refine lv_goto (tgt := 4) hx hb dX4_countFilledRows_78 (by decide) ?_
                exact ih4 (y2_4 + 1) (y1_4 + 0) _ _  (gap_step c57 hμ4) hB _ (lv_sub hl [0, 1, 4] rfl)
              · refine lv_iconst (v := 1) hx hb dX4_countFilledRows_68 (by decide) ?_
                refine lv_goto (tgt := 73) hx hb dX4_countFilledRows_69 (by decide) ?_
                refine lv_iadd hx hb dX4_countFilledRows_73 ?_
                refine lv_istore_n (lv' := [(1, .int (y1_4 + 1)), (4, .int y4_20), (3, .int y3_20), (2, .int y2_4), (0, .ref (a 2))]) hx hb dX4_countFilledRows_74 rfl hl (by decide) rfl (fun ls hl => ?_)
                refine lv_iinc (v := y2_4 + 1) (lv' := [(2, .int (y2_4 + 1)), (1, .int (y1_4 + 1)), (4, .int y4_20), (3, .int y3_20), (0, .ref (a 2))]) hx hb dX4_countFilledRows_75 hl (k := 3) rfl rfl (by decide) rfl (fun ls hl => ?_)
                refine lv_goto (tgt := 4) hx hb dX4_countFilledRows_78 (by decide) ?_
                exact ih4 (y2_4 + 1) (y1_4 + 1) _ _  (gap_step c57 hμ4) hB _ (lv_sub hl [0, 1, 4] rfl)
            · refine lv_iload_n hx hb dX4_countFilledRows_32 rfl (lv_at hl 1 rfl) ?_
              refine lv_if_ne (tgt := 51) hx hb dX4_countFilledRows_33 (by decide) (fun c82 => ?_) (fun c82 => ?_)
              · refine lv_iconst (v := 1) hx hb dX4_countFilledRows_51 (by decide) ?_
                refine lv_goto (tgt := 56) hx hb dX4_countFilledRows_52 (by decide) ?_
                refine lv_istore_n (lv' := [(3, .int 1), (4, .int y4_20), (2, .int y2_4), (1, .int y1_4), (0, .ref (a 2))]) hx hb dX4_countFilledRows_56 rfl hl (by decide) rfl (fun ls hl => ?_)
                refine lv_iinc (v := y4_20 + 1) (lv' := [(4, .int (y4_20 + 1)), (3, .int 1), (2, .int y2_4), (1, .int y1_4), (0, .ref (a 2))]) hx hb dX4_countFilledRows_57 hl (k := 1) rfl rfl (by decide) rfl (fun ls hl => ?_)
                refine lv_goto (tgt := 20) hx hb dX4_countFilledRows_60 (by decide) ?_
                exact ih20 (y4_20 + 1) 1 _ _  (gap_step c80 hμ20) hB _ hl
              · refine lv_aload_n hx hb dX4_countFilledRows_36 rfl (lv_at hl 4 rfl) ?_
                refine gf hX hB cw2 rfl in4 0 (by decide) wm_1_74 rfl rfl dX4_countFilledRows_37 ?_
                refine lv_iload_n hx hb dX4_countFilledRows_40 rfl (lv_at hl 2 rfl) ?_
                refine lv_iload hx hb dX4_countFilledRows_41 (lv_at hl 0 rfl) ?_
                refine call_V (n := 2) (As := [.int y2_4, .int y4_20]) (rest := []) hX hB (k_X3_get κ l a r q f 6 y2_4 y4_20 (by decide)) ⟨rfl, by decide, by decide, by decide +kernel⟩ wm_1_235 wm_1_187 wm_1_188 wm_1_2 wm_1_189 ⟨Nat.le_of_ble_eq_true rfl, Nat.le_of_ble_eq_true rfl⟩ ⟨Nat.le_of_ble_eq_true rfl, Nat.le_of_ble_eq_true rfl⟩ (cwG (i := 6) (by decide)) rfl rfl rfl hl.1 rfl (Nat.le_of_ble_eq_true rfl) dX4_countFilledRows_43 (fun o w' H locs hp hB => ?_)
                obtain ⟨x83, rfl, rfl⟩ := hp
                refine W.eq (g2 := F0 m 46 ls [.long x83]) rfl ?_
                refine lv_lconst (v := 0) hx hb dX4_countFilledRows_46 (by decide) ?_
                refine W.lcmp hx hb dX4_countFilledRows_47 ?_
                refine lv_if_eq (tgt := 55) hx hb dX4_countFilledRows_48 (by decide) (fun c84 => ?_) (fun c84 => ?_)
                · refine lv_iconst (v := 0) hx hb dX4_countFilledRows_55 (by decide) ?_
                  refine lv_istore_n (lv' := [(3, .int 0), (4, .int y4_20), (2, .int y2_4), (1, .int y1_4), (0, .ref (a 2))]) hx hb dX4_countFilledRows_56 rfl hl (by decide) rfl (fun ls hl => ?_)
                  refine lv_iinc (v := y4_20 + 1) (lv' := [(4, .int (y4_20 + 1)), (3, .int 0), (2, .int y2_4), (1, .int y1_4), (0, .ref (a 2))]) hx hb dX4_countFilledRows_57 hl (k := 1) rfl rfl (by decide) rfl (fun ls hl => ?_)
                  refine lv_goto (tgt := 20) hx hb dX4_countFilledRows_60 (by decide) ?_
                  exact ih20 (y4_20 + 1) 0 _ _  (gap_step c80 hμ20) hB _ hl
                · refine lv_iconst (v := 1) hx hb dX4_countFilledRows_51 (by decide) ?_
                  refine lv_goto (tgt := 56) hx hb dX4_countFilledRows_52 (by decide) ?_
                  refine lv_istore_n (lv' := [(3, .int 1), (4, .int y4_20), (2, .int y2_4), (1, .int y1_4), (0, .ref (a 2))]) hx hb dX4_countFilledRows_56 rfl hl (by decide) rfl (fun ls hl => ?_)
                  refine lv_iinc (v := y4_20 + 1) (lv' := [(4, .int (y4_20 + 1)), (3, .int 1), (2, .int y2_4), (1, .int y1_4), (0, .ref (a 2))]) hx hb dX4_countFilledRows_57 hl (k := 1) rfl rfl (by decide) rfl (fun ls hl => ?_)
                  refine lv_goto (tgt := 20) hx hb dX4_countFilledRows_60 (by decide) ?_
                  exact ih20 (y4_20 + 1) 1 _ _  (gap_step c80 hμ20) hB _ hl
        exact lp20 _ 0 0 _ _  (Nat.lt_succ_self _) hB _ hl
  exact lp4 _ 0 0 _ _  (Nat.lt_succ_self _) hB _ hl
set_option maxHeartbeats 4000000 in
set_option maxRecDepth 100000 in
theorem k_X4_findDeterminant (κ : Kt) (l : Launch) (a : Nat → Nat) (r q : Nat → Int32) (f : Nat → Nat → Int64)  : CM κ l yX4_findDeterminant cX4_findDeterminant 4 (some .long) 6 165 0 0 [.ref (a 2)] (cw κ a r q f) (fun o w' => ∃ x : Int64, o = some (.long x) ∧ w' = cw κ a r q f) := by
  refine CM_begin (plainFor_of_name (by decide)) (Nat.le_of_ble_eq_true rfl) ?_
  intro p e s m args below meth c A Q hX hnm hA3 hQ hB ls hl
  have hx := hX.1.1
  have hb := hX.1.2.1
  have hl : lv_has ls 4 [(0, .ref (a 2))] := hl
  refine lv_aload_n hx hb dX4_findDeterminant_0 rfl (lv_at hl 0 rfl) ?_
  refine gf hX hB cw2 rfl in4 1 (by decide) wm_1_76 rfl rfl dX4_findDeterminant_1 ?_
  refine call_S (n := 1) (As := [.ref (a 20)]) (rest := []) hX hB (k_X0_byFirstRow κ l a r q f 7 (by decide)) ⟨by decide, by decide, by decide +kernel⟩ wm_2_71 wm_1_181 wm_1_29 wm_1_182 ⟨Nat.le_of_ble_eq_true rfl, Nat.le_of_ble_eq_true rfl⟩ ⟨Nat.le_of_ble_eq_true rfl, Nat.le_of_ble_eq_true rfl⟩ rfl hl.1 rfl (Nat.le_of_ble_eq_true rfl) dX4_findDeterminant_4 (fun o w' H locs hp hB => ?_)
  obtain ⟨x1, rfl, rfl⟩ := hp
  refine W.eq (g2 := F0 m 7 ls [.long x1]) rfl ?_
  refine lv_lstore_n (lv' := [(1, .long x1), (0, .ref (a 2))]) hx hb dX4_findDeterminant_7 rfl hl (by decide) rfl (fun ls hl => ?_)
  refine lv_iconst (v := 0) hx hb dX4_findDeterminant_8 (by decide) ?_
  refine lv_istore_n (lv' := [(3, .int 0), (1, .long x1), (0, .ref (a 2))]) hx hb dX4_findDeterminant_9 rfl hl (by decide) rfl (fun ls hl => ?_)
  have lp10 : ∀ (nn : Nat) (y3_10 : Int32) (y1_10 : Int64) (H : Heap) (locs : List Loc), gap (r (2 * 6)) y3_10 < nn → Bd κ A s (cw κ a r q f) H locs → ∀ ls : Array Slot, lv_has ls 4 [(3, .int y3_10), (1, .long y1_10), (0, .ref (a 2))] → W p l e (Rm 6 165 0 0) s m args below meth c H locs 0 0 Q (F0 m 10 ls []) := by
    intro nn
    induction nn with
    | zero => intro y3_10 y1_10 H locs hμ; exact absurd hμ (Nat.not_lt_zero _)
    | succ nn ih10 =>
      intro y3_10 y1_10 H locs hμ10 hB ls hl
      refine lv_iload_n hx hb dX4_findDeterminant_10 rfl (lv_at hl 0 rfl) ?_
      refine lv_aload_n hx hb dX4_findDeterminant_11 rfl (lv_at hl 2 rfl) ?_
      refine gf hX hB cw2 rfl in4 0 (by decide) wm_1_74 rfl rfl dX4_findDeterminant_12 ?_
      refine gfN hX hB (cwG (i := 6) (by decide)) rfl in3 1 (by decide) wn_1_48 rfl rfl dX4_findDeterminant_15 ?_
      refine lv_icmp_ge (tgt := 39) hx hb dX4_findDeterminant_18 (by decide) (fun c6 => ?_) (fun c6 => ?_)
      · refine lv_lload_n hx hb dX4_findDeterminant_39 rfl (lv_at hl 1 rfl) ?_
        rw [← hQ]
        exact end_l hX hB hA3 rfl ⟨y1_10, rfl, rfl⟩ (Nat.le_of_ble_eq_true rfl) (Nat.le_of_ble_eq_true rfl) dX4_findDeterminant_40
      · refine lv_lload_n hx hb dX4_findDeterminant_21 rfl (lv_at hl 1 rfl) ?_
        refine lv_aload_n hx hb dX4_findDeterminant_22 rfl (lv_at hl 2 rfl) ?_
        refine gf hX hB cw2 rfl in4 0 (by decide) wm_1_74 rfl rfl dX4_findDeterminant_23 ?_
        refine lv_iload_n hx hb dX4_findDeterminant_26 rfl (lv_at hl 0 rfl) ?_
        refine lv_iload_n hx hb dX4_findDeterminant_27 rfl (lv_at hl 0 rfl) ?_
        refine call_V (n := 2) (As := [.int y3_10, .int y3_10]) (rest := [.long y1_10]) hX hB (k_X3_get κ l a r q f 6 y3_10 y3_10 (by decide)) ⟨rfl, by decide, by decide, by decide +kernel⟩ wm_1_235 wm_1_187 wm_1_188 wm_1_2 wm_1_189 ⟨Nat.le_of_ble_eq_true rfl, Nat.le_of_ble_eq_true rfl⟩ ⟨Nat.le_of_ble_eq_true rfl, Nat.le_of_ble_eq_true rfl⟩ (cwG (i := 6) (by decide)) rfl rfl rfl hl.1 rfl (Nat.le_of_ble_eq_true rfl) dX4_findDeterminant_28 (fun o w' H locs hp hB => ?_)
        obtain ⟨x7, rfl, rfl⟩ := hp
        refine W.eq (g2 := F0 m 31 ls [.long x7, .long y1_10]) rfl ?_
        refine lv_lmul hx hb dX4_findDeterminant_31 ?_
        refine lv_lstore_n (lv' := [(1, .long (y1_10 * x7)), (3, .int y3_10), (0, .ref (a 2))]) hx hb dX4_findDeterminant_32 rfl hl (by decide) rfl (fun ls hl => ?_)
        refine lv_iinc (v := y3_10 + 1) (lv' := [(3, .int (y3_10 + 1)), (1, .long (y1_10 * x7)), (0, .ref (a 2))]) hx hb dX4_findDeterminant_33 hl (k := 1) rfl rfl (by decide) rfl (fun ls hl => ?_)
        refine lv_goto (tgt := 10) hx hb dX4_findDeterminant_36 (by decide) ?_
        exact ih10 (y3_10 + 1) (y1_10 * x7) _ _  (gap_step c6 hμ10) hB _ hl
  exact lp10 _ 0 x1 _ _  (Nat.lt_succ_self _) hB _ hl
