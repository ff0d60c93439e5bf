set_option maxHeartbeats 4000000 in
set_option maxRecDepth 100000 in
theorem k_X1_findLeastPlace (κ : Kt) (l : Launch) (a : Nat → Nat) (r q : Nat → Int32) (f : Nat → Nat → Int64) (p0 : Int32)  : CM κ l yX1_findLeastPlace cX1_findLeastPlace 9 (some .int) 1 22 0 0 [.ref (a 3), .int p0] (cw κ a r q f) (fun o w' => ∃ x : Int32, o = some (.int x) ∧ w' = cw κ a r q f) := by
  refine CM_begin (plainFor_of_name (by decide)) (Nat.le_of_ble_eq_true rfl) ?_
  intro p e s m args below meth c A Q hX hnm hA3 hQ hB ls hl
  have hx := hX.1.1
  have hb := hX.1.2.1
  have hl : lv_has ls 9 [(0, .ref (a 3)), (1, .int p0)] := hl
  refine lv_iconst (v := (-1)) hx hb dX1_findLeastPlace_0 (by decide) ?_
  refine lv_istore_n (lv' := [(2, .int (-1)), (0, .ref (a 3)), (1, .int p0)]) hx hb dX1_findLeastPlace_1 rfl hl (by decide) rfl (fun ls hl => ?_)
  refine lv_lconst (v := 0) hx hb dX1_findLeastPlace_2 (by decide) ?_
  refine lv_lstore_n (lv' := [(3, .long 0), (2, .int (-1)), (0, .ref (a 3)), (1, .int p0)]) hx hb dX1_findLeastPlace_3 rfl hl (by decide) rfl (fun ls hl => ?_)
  refine lv_iload_n hx hb dX1_findLeastPlace_4 rfl (lv_at hl 3 rfl) ?_
  refine lv_istore (lv' := [(5, .int p0), (3, .long 0), (2, .int (-1)), (0, .ref (a 3)), (1, .int p0)]) hx hb dX1_findLeastPlace_5 hl (by decide) rfl (fun ls hl => ?_)
  have lp7 : ∀ (nn : Nat) (y5_7 : Int32) (y3_7 : Int64) (y2_7 : Int32) (H : Heap) (locs : List Loc), gap (r (2 * 8)) y5_7 < nn → Bd κ A s (cw κ a r q f) H locs → ∀ ls : Array Slot, lv_has ls 9 [(5, .int y5_7), (3, .long y3_7), (2, .int y2_7), (0, .ref (a 3)), (1, .int p0)] → W p l e (Rm 1 22 0 0) s m args below meth c H locs 0 0 Q (F0 m 7 ls []) := by
    intro nn
    induction nn with
    | zero => intro y5_7 y3_7 y2_7 H locs hμ; exact absurd hμ (Nat.not_lt_zero _)
    | succ nn ih7 =>
      intro y5_7 y3_7 y2_7 H locs hμ7 hB ls hl
      refine lv_iload hx hb dX1_findLeastPlace_7 (lv_at hl 0 rfl) ?_
      refine lv_aload_n hx hb dX1_findLeastPlace_9 rfl (lv_at hl 3 rfl) ?_
      refine gf hX hB cw3 rfl in1 0 (by decide) wm_1_95 rfl rfl dX1_findLeastPlace_10 ?_
      refine gfN hX hB (cwG (i := 8) (by decide)) rfl in3 1 (by decide) wn_1_49 rfl rfl dX1_findLeastPlace_13 ?_
      refine lv_icmp_ge (tgt := 91) hx hb dX1_findLeastPlace_16 (by decide) (fun c39 => ?_) (fun c39 => ?_)
      · refine lv_iload_n hx hb dX1_findLeastPlace_91 rfl (lv_at hl 2 rfl) ?_
        rw [← hQ]
        exact end_i hX hB hA3 rfl rfl ⟨y2_7, rfl, rfl⟩ (Nat.le_of_ble_eq_true rfl) (Nat.le_of_ble_eq_true rfl) dX1_findLeastPlace_92
      · refine lv_iload_n hx hb dX1_findLeastPlace_19 rfl (lv_at hl 4 rfl) ?_
        refine lv_istore (lv' := [(6, .int p0), (5, .int y5_7), (3, .long y3_7), (2, .int y2_7), (0, .ref (a 3)), (1, .int p0)]) hx hb dX1_findLeastPlace_20 hl (by decide) rfl (fun ls hl => ?_)
        have lp22 : ∀ (nn : Nat) (y6_22 : Int32) (y3_22 : Int64) (y2_22 : Int32) (H : Heap) (locs : List Loc), gap (r (2 * 8 + 1)) y6_22 < nn → Bd κ A s (cw κ a r q f) H locs → ∀ ls : Array Slot, lv_has ls 9 [(6, .int y6_22), (5, .int y5_7), (3, .long y3_22), (2, .int y2_22), (0, .ref (a 3)), (1, .int p0)] → W p l e (Rm 1 22 0 0) s m args below meth c H locs 0 0 Q (F0 m 22 ls []) := by
          intro nn
          induction nn with
          | zero => intro y6_22 y3_22 y2_22 H locs hμ; exact absurd hμ (Nat.not_lt_zero _)
          | succ nn ih22 =>
            intro y6_22 y3_22 y2_22 H locs hμ22 hB ls hl
            refine lv_iload hx hb dX1_findLeastPlace_22 (lv_at hl 0 rfl) ?_
            refine lv_aload_n hx hb dX1_findLeastPlace_24 rfl (lv_at hl 4 rfl) ?_
            refine gf hX hB cw3 rfl in1 0 (by decide) wm_1_95 rfl rfl dX1_findLeastPlace_25 ?_
            refine gfN hX hB (cwG (i := 8) (by decide)) rfl in3 2 (by decide) wn_1_54 rfl rfl dX1_findLeastPlace_28 ?_
            refine lv_icmp_ge (tgt := 85) hx hb dX1_findLeastPlace_31 (by decide) (fun c52 => ?_) (fun c52 => ?_)
            · refine lv_iinc (v := y5_7 + 1) (lv' := [(5, .int (y5_7 + 1)), (6, .int y6_22), (3, .long y3_22), (2, .int y2_22), (0, .ref (a 3)), (1, .int p0)]) hx hb dX1_findLeastPlace_85 hl (k := 1) rfl rfl (by decide) rfl (fun ls hl => ?_)
              refine lv_goto (tgt := 7) hx hb dX1_findLeastPlace_88 (by decide) ?_
              exact ih7 (y5_7 + 1) y3_22 y2_22 _ _  (gap_step c39 hμ7) hB _ (lv_sub hl [0, 2, 3, 4, 5] rfl)
            · refine lv_aload_n hx hb dX1_findLeastPlace_34 rfl (lv_at hl 4 rfl) ?_
              refine gf hX hB cw3 rfl in1 0 (by decide) wm_1_95 rfl rfl dX1_findLeastPlace_35 ?_
              refine lv_iload hx hb dX1_findLeastPlace_38 (lv_at hl 1 rfl) ?_
              refine lv_iload hx hb dX1_findLeastPlace_40 (lv_at hl 0 rfl) ?_
              refine call_V (n := 2) (As := [.int y5_7, .int y6_22]) (rest := []) hX hB (k_X3_get κ l a r q f 8 y5_7 y6_22 (by decide)) ⟨rfl, by decide, by decide, by decide +kernel⟩ wm_2_87 wm_1_187 wm_1_188 wm_1_2 wm_1_189 ⟨Nat.le_of_ble_eq_true rfl, Nat.le_of_ble_eq_true rfl⟩ ⟨Nat.le_of_ble_eq_true rfl, Nat.le_of_ble_eq_true rfl⟩ (cwG (i := 8) (by decide)) rfl rfl rfl hl.1 rfl (Nat.le_of_ble_eq_true rfl) dX1_findLeastPlace_42 (fun o w' H locs hp hB => ?_)
              obtain ⟨x53, rfl, rfl⟩ := hp
              refine W.eq (g2 := F0 m 45 ls [.long x53]) rfl ?_
              refine va_mabs_long hx hb (by rw [hX.1.2.2.1]; exact hl.1.symm) hX.1.2.2.2.1 (hX.1.2.2.2.2 _ wm_2_88) (hX.1.2.2.2.2 _ wm_1_237) (hX.1.2.2.2.2 _ wm_1_14) (hX.1.2.2.2.2 _ wm_1_238) (Nat.le_of_ble_eq_true rfl) (Nat.le_of_ble_eq_true rfl) (Nat.le_of_ble_eq_true rfl) (Nat.le_of_ble_eq_true rfl) dX1_findLeastPlace_45 ?_
              refine lv_topl (fun t54 et54 => ?_)
              refine lv_lstore (lv' := [(7, .long t54), (6, .int y6_22), (5, .int y5_7), (3, .long y3_22), (2, .int y2_22), (0, .ref (a 3)), (1, .int p0)]) hx hb dX1_findLeastPlace_48 hl (by decide) rfl (fun ls hl => ?_)
              refine lv_lload hx hb dX1_findLeastPlace_50 (lv_at hl 0 rfl) ?_
              refine lv_lconst (v := 0) hx hb dX1_findLeastPlace_52 (by decide) ?_
              refine W.lcmp hx hb dX1_findLeastPlace_53 ?_
              refine lv_if_eq (tgt := 79) hx hb dX1_findLeastPlace_54 (by decide) (fun c55 => ?_) (fun c55 => ?_)
              · refine lv_iinc (v := y6_22 + 1) (lv' := [(6, .int (y6_22 + 1)), (7, .long t54), (5, .int y5_7), (3, .long y3_22), (2, .int y2_22), (0, .ref (a 3)), (1, .int p0)]) hx hb dX1_findLeastPlace_79 hl (k := 1) rfl rfl (by decide) rfl (fun ls hl => ?_)
                refine lv_goto (tgt := 22) hx hb dX1_findLeastPlace_82 (by decide) ?_
                exact ih22 (y6_22 + 1) y3_22 y2_22 _ _  (gap_step c52 hμ22) hB _ (lv_sub hl [0, 2, 3, 4, 5, 6] rfl)
              · refine lv_iload_n hx hb dX1_findLeastPlace_57 rfl (lv_at hl 4 rfl) ?_
                refine lv_if_lt (tgt := 68) hx hb dX1_findLeastPlace_58 (by decide) (fun c56 => ?_) (fun c56 => ?_)
                · refine lv_iload hx hb dX1_findLeastPlace_68 (lv_at hl 2 rfl) ?_
                  refine lv_iconst (v := 5) hx hb dX1_findLeastPlace_70 (by decide) ?_
                  refine lv_imul hx hb dX1_findLeastPlace_71 ?_
                  refine lv_iload hx hb dX1_findLeastPlace_72 (lv_at hl 1 rfl) ?_
                  refine lv_iadd hx hb dX1_findLeastPlace_74 ?_
                  refine lv_istore_n (lv' := [(2, .int ((y5_7 * 5) + y6_22)), (7, .long t54), (6, .int y6_22), (5, .int y5_7), (3, .long y3_22), (0, .ref (a 3)), (1, .int p0)]) hx hb dX1_findLeastPlace_75 rfl hl (by decide) rfl (fun ls hl => ?_)
                  refine lv_lload hx hb dX1_findLeastPlace_76 (lv_at hl 1 rfl) ?_
                  refine lv_lstore_n (lv' := [(3, .long t54), (2, .int ((y5_7 * 5) + y6_22)), (7, .long t54), (6, .int y6_22), (5, .int y5_7), (0, .ref (a 3)), (1, .int p0)]) hx hb dX1_findLeastPlace_78 rfl hl (by decide) rfl (fun ls hl => ?_)
                  refine lv_iinc (v := y6_22 + 1) (lv' := [(6, .int (y6_22 + 1)), (3, .long t54), (2, .int ((y5_7 * 5) + y6_22)), (7, .long t54), (5, .int y5_7), (0, .ref (a 3)), (1, .int p0)]) hx hb dX1_findLeastPlace_79 hl (k := 3) rfl rfl (by decide) rfl (fun ls hl => ?_)
                  refine lv_goto (tgt := 22) hx hb dX1_findLeastPlace_82 (by decide) ?_
                  exact ih22 (y6_22 + 1) t54 ((y5_7 * 5) + y6_22) _ _  (gap_step c52 hμ22) hB _ (lv_sub hl [0, 4, 1, 2, 5, 6] rfl)
                · refine lv_lload hx hb dX1_findLeastPlace_61 (lv_at hl 0 rfl) ?_
                  refine lv_lload_n hx hb dX1_findLeastPlace_63 rfl (lv_at hl 3 rfl) ?_
                  refine W.lcmp hx hb dX1_findLeastPlace_64 ?_
                  refine lv_if_ge (tgt := 79) hx hb dX1_findLeastPlace_65 (by decide) (fun c57 => ?_) (fun c57 => ?_)
                  · refine lv_iinc (v := y6_22 + 1) (lv' := [(6, .int (y6_22 + 1)), (7, .long t54), (5, .int y5_7), (3, .long y3_22), (2, .int y2_22), (0, .ref (a 3)), (1, .int p0)]) hx hb dX1_findLeastPlace_79 hl (k := 1) rfl rfl (by decide) rfl (fun ls hl => ?_)
                    refine lv_goto (tgt := 22) hx hb dX1_findLeastPlace_82 (by decide) ?_
                    exact ih22 (y6_22 + 1) y3_22 y2_22 _ _  (gap_step c52 hμ22) hB _ (lv_sub hl [0, 2, 3, 4, 5, 6] rfl)
                  · refine lv_iload hx hb dX1_findLeastPlace_68 (lv_at hl 2 rfl) ?_
                    refine lv_iconst (v := 5) hx hb dX1_findLeastPlace_70 (by decide) ?_
                    refine lv_imul hx hb dX1_findLeastPlace_71 ?_
                    refine lv_iload hx hb dX1_findLeastPlace_72 (lv_at hl 1 rfl) ?_
                    refine lv_iadd hx hb dX1_findLeastPlace_74 ?_
                    refine lv_istore_n (lv' := [(2, .int ((y5_7 * 5) + y6_22)), (7, .long t54), (6, .int y6_22), (5, .int y5_7), (3, .long y3_22), (0, .ref (a 3)), (1, .int p0)]) hx hb dX1_findLeastPlace_75 rfl hl (by decide) rfl (fun ls hl => ?_)
                    refine lv_lload hx hb dX1_findLeastPlace_76 (lv_at hl 1 rfl) ?_
                    refine lv_lstore_n (lv' := [(3, .long t54), (2, .int ((y5_7 * 5) + y6_22)), (7, .long t54), (6, .int y6_22), (5, .int y5_7), (0, .ref (a 3)), (1, .int p0)]) hx hb dX1_findLeastPlace_78 rfl hl (by decide) rfl (fun ls hl => ?_)
                    refine lv_iinc (v := y6_22 + 1) (lv' := [(6, .int (y6_22 + 1)), (3, .long t54), (2, .int ((y5_7 * 5) + y6_22)), (7, .long t54), (5, .int y5_7), (0, .ref (a 3)), (1, .int p0)]) hx hb dX1_findLeastPlace_79 hl (k := 3) rfl rfl (by decide) rfl (fun ls hl => ?_)
                    refine lv_goto (tgt := 22) hx hb dX1_findLeastPlace_82 (by decide) ?_
                    exact ih22 (y6_22 + 1) t54 ((y5_7 * 5) + y6_22) _ _  (gap_step c52 hμ22) hB _ (lv_sub hl [0, 4, 1, 2, 5, 6] rfl)
        exact lp22 _ p0 y3_7 y2_7 _ _  (Nat.lt_succ_self _) hB _ hl
  exact lp7 _ p0 0 (-1) _ _  (Nat.lt_succ_self _) hB _ hl
set_option maxHeartbeats 4000000 in
set_option maxRecDepth 100000 in
theorem k_X1_bring (κ : Kt) (l : Launch) (a : Nat → Nat) (r q : Nat → Int32) (f : Nat → Nat → Int64) (p0 : Int32) (p1 : Int32) (p2 : Int32)  : CM κ l yX1_bring cX1_bring 4 (none) 2 51 0 0 [.ref (a 3), .int p0, .int p1, .int p2] (cw κ a r q f) (fun o w' => ∃ f' : Nat → Nat → Int64, o = none ∧ w' = cw κ a r q f') := by
  refine CM_begin (plainFor_of_name (by decide)) (Nat.le_of_ble_eq_true rfl) ?_
  intro p e s m args below meth c A Q hX hnm hA3 hQ hB ls hl
  have hx := hX.1.1
  have hb := hX.1.2.1
  have hl : lv_has ls 4 [(0, .ref (a 3)), (1, .int p0), (2, .int p1), (3, .int p2)] := hl
  refine lv_iload_n hx hb dX1_bring_0 rfl (lv_at hl 1 rfl) ?_
  refine lv_iload_n hx hb dX1_bring_1 rfl (lv_at hl 3 rfl) ?_
  have jn25 : ∀ (f_25 : Nat → Nat → Int64) (H : Heap) (locs : List Loc), Bd κ A s (cw κ a r q f_25) H locs → ∀ ls : Array Slot, lv_has ls 4 [(0, .ref (a 3)), (1, .int p0), (2, .int p1), (3, .int p2)] → W p l e (Rm 2 51 0 0) s m args below meth c H locs 0 0 Q (F0 m 25 ls []) := by
    intro f_25 H locs hB ls hl
    refine lv_iload_n hx hb dX1_bring_25 rfl (lv_at hl 2 rfl) ?_
    refine lv_iload_n hx hb dX1_bring_26 rfl (lv_at hl 3 rfl) ?_
    have jn50 : ∀ (f_50 : Nat → Nat → Int64) (H : Heap) (locs : List Loc), Bd κ A s (cw κ a r q f_50) H locs → ∀ ls : Array Slot, lv_has ls 4 [(0, .ref (a 3)), (1, .int p0), (2, .int p1), (3, .int p2)] → W p l e (Rm 2 51 0 0) s m args below meth c H locs 0 0 Q (F0 m 50 ls []) := by
      intro f_50 H locs hB ls hl
      refine lv_aload_n hx hb dX1_bring_50 rfl (lv_at hl 0 rfl) ?_
      refine gf hX hB cw3 rfl in1 0 (by decide) wm_1_95 rfl rfl dX1_bring_51 ?_
      refine lv_iload_n hx hb dX1_bring_54 rfl (lv_at hl 3 rfl) ?_
      refine lv_iload_n hx hb dX1_bring_55 rfl (lv_at hl 3 rfl) ?_
      refine call_V (n := 2) (As := [.int p2, .int p2]) (rest := []) hX hB (k_X3_get κ l a r q f_50 8 p2 p2 (by decide)) ⟨rfl, by decide, by decide, by decide +kernel⟩ wm_2_87 wm_1_187 wm_1_188 wm_1_2 wm_1_189 ⟨Nat.le_of_ble_eq_true rfl, Nat.le_of_ble_eq_true rfl⟩ ⟨Nat.le_of_ble_eq_true rfl, Nat.le_of_ble_eq_true rfl⟩ (cwG (i := 8) (by decide)) rfl rfl rfl hl.1 rfl (Nat.le_of_ble_eq_true rfl) dX1_bring_56 (fun o w' H locs hp hB => ?_)
      obtain ⟨x7, rfl, rfl⟩ := hp
      refine W.eq (g2 := F0 m 59 ls [.long x7]) rfl ?_
      refine lv_lconst (v := 0) hx hb dX1_bring_59 (by decide) ?_
      refine W.lcmp hx hb dX1_bring_60 ?_
      refine lv_if_ge (tgt := 82) hx hb dX1_bring_61 (by decide) (fun c8 => ?_) (fun c8 => ?_)
      · rw [← hQ]
        exact end_v hX hB hA3 rfl ⟨f_50, rfl, rfl⟩ (Nat.le_of_ble_eq_true rfl) (Nat.le_of_ble_eq_true rfl) dX1_bring_82
      · refine lv_aload_n hx hb dX1_bring_64 rfl (lv_at hl 0 rfl) ?_
        refine gf hX hB cw3 rfl in1 0 (by decide) wm_1_95 rfl rfl dX1_bring_65 ?_
        refine lv_iconst (v := 0) hx hb dX1_bring_68 (by decide) ?_
        refine lv_iload_n hx hb dX1_bring_69 rfl (lv_at hl 3 rfl) ?_
        refine call_V (n := 2) (As := [.int 0, .int p2]) (rest := []) hX hB (k_X3_turnLine κ l a r q f_50 8 0 p2 (by decide)) ⟨rfl, by decide, by decide, by decide +kernel⟩ wm_2_94 wm_2_9 wm_2_10 wm_1_2 wm_2_11 ⟨Nat.le_of_ble_eq_true rfl, Nat.le_of_ble_eq_true rfl⟩ ⟨Nat.le_of_ble_eq_true rfl, Nat.le_of_ble_eq_true rfl⟩ (cwG (i := 8) (by decide)) rfl rfl rfl hl.1 rfl (Nat.le_of_ble_eq_true rfl) dX1_bring_70 (fun o w' H locs hp hB => ?_)
        obtain ⟨f9, rfl, rfl⟩ := hp
        refine W.eq (g2 := F0 m 73 ls []) rfl ?_
        refine lv_aload_n hx hb dX1_bring_73 rfl (lv_at hl 0 rfl) ?_
        refine gf hX hB cw3 rfl in1 1 (by decide) wm_1_98 rfl rfl dX1_bring_74 ?_
        refine lv_iconst (v := 0) hx hb dX1_bring_77 (by decide) ?_
        refine lv_iload_n hx hb dX1_bring_78 rfl (lv_at hl 3 rfl) ?_
        refine call_V (n := 2) (As := [.int 0, .int p2]) (rest := []) hX hB (k_X3_turnLine κ l a r q f9 9 0 p2 (by decide)) ⟨rfl, by decide, by decide, by decide +kernel⟩ wm_2_94 wm_2_9 wm_2_10 wm_1_2 wm_2_11 ⟨Nat.le_of_ble_eq_true rfl, Nat.le_of_ble_eq_true rfl⟩ ⟨Nat.le_of_ble_eq_true rfl, Nat.le_of_ble_eq_true rfl⟩ (cwG (i := 9) (by decide)) rfl rfl rfl hl.1 rfl (Nat.le_of_ble_eq_true rfl) dX1_bring_79 (fun o w' H locs hp hB => ?_)
        obtain ⟨f10, rfl, rfl⟩ := hp
        refine W.eq (g2 := F0 m 82 ls []) rfl ?_
        rw [← hQ]
        exact end_v hX hB hA3 rfl ⟨f10, rfl, rfl⟩ (Nat.le_of_ble_eq_true rfl) (Nat.le_of_ble_eq_true rfl) dX1_bring_82
    refine lv_icmp_eq (tgt := 50) hx hb dX1_bring_27 (by decide) (fun c11 => ?_) (fun c11 => ?_)
    · exact jn50 f_25 _ _  hB _ hl
    · refine lv_aload_n hx hb dX1_bring_30 rfl (lv_at hl 0 rfl) ?_
      refine gf hX hB cw3 rfl in1 0 (by decide) wm_1_95 rfl rfl dX1_bring_31 ?_
      refine lv_iconst (v := 1) hx hb dX1_bring_34 (by decide) ?_
      refine lv_iload_n hx hb dX1_bring_35 rfl (lv_at hl 2 rfl) ?_
      refine lv_iload_n hx hb dX1_bring_36 rfl (lv_at hl 3 rfl) ?_
      refine call_V (n := 3) (As := [.int 1, .int p1, .int p2]) (rest := []) hX hB (k_X3_exchangeLines κ l a r q f_25 8 1 p1 p2 (by decide)) ⟨rfl, by decide, by decide, by decide +kernel⟩ wm_2_93 wm_2_4 wm_2_5 wm_1_2 wm_2_6 ⟨Nat.le_of_ble_eq_true rfl, Nat.le_of_ble_eq_true rfl⟩ ⟨Nat.le_of_ble_eq_true rfl, Nat.le_of_ble_eq_true rfl⟩ (cwG (i := 8) (by decide)) rfl rfl rfl hl.1 rfl (Nat.le_of_ble_eq_true rfl) dX1_bring_37 (fun o w' H locs hp hB => ?_)
      obtain ⟨f12, rfl, rfl⟩ := hp
      refine W.eq (g2 := F0 m 40 ls []) rfl ?_
      refine lv_aload_n hx hb dX1_bring_40 rfl (lv_at hl 0 rfl) ?_
      refine gf hX hB cw3 rfl in1 2 (by decide) wm_1_101 rfl rfl dX1_bring_41 ?_
      refine lv_iconst (v := 1) hx hb dX1_bring_44 (by decide) ?_
      refine lv_iload_n hx hb dX1_bring_45 rfl (lv_at hl 2 rfl) ?_
      refine lv_iload_n hx hb dX1_bring_46 rfl (lv_at hl 3 rfl) ?_
      refine call_V (n := 3) (As := [.int 1, .int p1, .int p2]) (rest := []) hX hB (k_X3_exchangeLines κ l a r q f12 10 1 p1 p2 (by decide)) ⟨rfl, by decide, by decide, by decide +kernel⟩ wm_2_93 wm_2_4 wm_2_5 wm_1_2 wm_2_6 ⟨Nat.le_of_ble_eq_true rfl, Nat.le_of_ble_eq_true rfl⟩ ⟨Nat.le_of_ble_eq_true rfl, Nat.le_of_ble_eq_true rfl⟩ (cwG (i := 10) (by decide)) rfl rfl rfl hl.1 rfl (Nat.le_of_ble_eq_true rfl) dX1_bring_47 (fun o w' H locs hp hB => ?_)
      obtain ⟨f13, rfl, rfl⟩ := hp
      refine W.eq (g2 := F0 m 50 ls []) rfl ?_
      exact jn50 f13 _ _  hB _ hl
  refine lv_icmp_eq (tgt := 25) hx hb dX1_bring_2 (by decide) (fun c14 => ?_) (fun c14 => ?_)
  · exact jn25 f _ _  hB _ hl
  · refine lv_aload_n hx hb dX1_bring_5 rfl (lv_at hl 0 rfl) ?_
    refine gf hX hB cw3 rfl in1 0 (by decide) wm_1_95 rfl rfl dX1_bring_6 ?_
    refine lv_iconst (v := 0) hx hb dX1_bring_9 (by decide) ?_
    refine lv_iload_n hx hb dX1_bring_10 rfl (lv_at hl 1 rfl) ?_
    refine lv_iload_n hx hb dX1_bring_11 rfl (lv_at hl 3 rfl) ?_
    refine call_V (n := 3) (As := [.int 0, .int p0, .int p2]) (rest := []) hX hB (k_X3_exchangeLines κ l a r q f 8 0 p0 p2 (by decide)) ⟨rfl, by decide, by decide, by decide +kernel⟩ wm_2_93 wm_2_4 wm_2_5 wm_1_2 wm_2_6 ⟨Nat.le_of_ble_eq_true rfl, Nat.le_of_ble_eq_true rfl⟩ ⟨Nat.le_of_ble_eq_true rfl, Nat.le_of_ble_eq_true rfl⟩ (cwG (i := 8) (by decide)) rfl rfl rfl hl.1 rfl (Nat.le_of_ble_eq_true rfl) dX1_bring_12 (fun o w' H locs hp hB => ?_)
    obtain ⟨f15, rfl, rfl⟩ := hp
    refine W.eq (g2 := F0 m 15 ls []) rfl ?_
    refine lv_aload_n hx hb dX1_bring_15 rfl (lv_at hl 0 rfl) ?_
    refine gf hX hB cw3 rfl in1 1 (by decide) wm_1_98 rfl rfl dX1_bring_16 ?_
    refine lv_iconst (v := 0) hx hb dX1_bring_19 (by decide) ?_
    refine lv_iload_n hx hb dX1_bring_20 rfl (lv_at hl 1 rfl) ?_
    refine lv_iload_n hx hb dX1_bring_21 rfl (lv_at hl 3 rfl) ?_
    refine call_V (n := 3) (As := [.int 0, .int p0, .int p2]) (rest := []) hX hB (k_X3_exchangeLines κ l a r q f15 9 0 p0 p2 (by decide)) ⟨rfl, by decide, by decide, by decide +kernel⟩ wm_2_93 wm_2_4 wm_2_5 wm_1_2 wm_2_6 ⟨Nat.le_of_ble_eq_true rfl, Nat.le_of_ble_eq_true rfl⟩ ⟨Nat.le_of_ble_eq_true rfl, Nat.le_of_ble_eq_true rfl⟩ (cwG (i := 9) (by decide)) rfl rfl rfl hl.1 rfl (Nat.le_of_ble_eq_true rfl) dX1_bring_22 (fun o w' H locs hp hB => ?_)
    obtain ⟨f16, rfl, rfl⟩ := hp
    refine W.eq (g2 := F0 m 25 ls []) rfl ?_
    exact jn25 f16 _ _  hB _ hl
set_option maxHeartbeats 4000000 in
set_option maxRecDepth 100000 in
theorem k_X1_addRow (κ : Kt) (l : Launch) (a : Nat → Nat) (r q : Nat → Int32) (f : Nat → Nat → Int64) (p0 : Int32) (p1 : Int32) (p2 : Int64)  : CM κ l yX1_addRow cX1_addRow 5 (none) 2 51 0 0 [.ref (a 3), .int p0, .int p1, .long p2] (cw κ a r q f) (fun o w' => ∃ (q' : Nat → Int32) (f' : Nat → Nat → Int64), o = none ∧ q' 4 = q 4 ∧ w' = cw κ a r q' f') := by
  refine CM_begin (plainFor_of_name (by decide)) (Nat.le_of_ble_eq_true rfl) ?_
  intro p e s m args below meth c A Q hX hnm hA3 hQ hB ls hl
  have hx := hX.1.1
  have hb := hX.1.2.1
  have hl : lv_has ls 5 [(0, .ref (a 3)), (1, .int p0), (2, .int p1), (3, .long p2)] := hl
  refine lv_aload_n hx hb dX1_addRow_0 rfl (lv_at hl 0 rfl) ?_
  refine gf hX hB cw3 rfl in1 0 (by decide) wm_1_95 rfl rfl dX1_addRow_1 ?_
  refine lv_iconst (v := 0) hx hb dX1_addRow_4 (by decide) ?_
  refine lv_iload_n hx hb dX1_addRow_5 rfl (lv_at hl 1 rfl) ?_
  refine lv_iload_n hx hb dX1_addRow_6 rfl (lv_at hl 2 rfl) ?_
  refine lv_lload_n hx hb dX1_addRow_7 rfl (lv_at hl 3 rfl) ?_
  refine call_V (n := 4) (As := [.int 0, .int p0, .int p1, .long p2]) (rest := []) hX hB (k_X3_addLine κ l a r q f 8 0 p0 p1 p2 (by decide)) ⟨rfl, by decide, by decide, by decide +kernel⟩ wm_2_100 wm_2_23 wm_2_24 wm_1_2 wm_2_25 ⟨Nat.le_of_ble_eq_true rfl, Nat.le_of_ble_eq_true rfl⟩ ⟨Nat.le_of_ble_eq_true rfl, Nat.le_of_ble_eq_true rfl⟩ (cwG (i := 8) (by decide)) rfl rfl rfl hl.1 rfl (Nat.le_of_ble_eq_true rfl) dX1_addRow_8 (fun o w' H locs hp hB => ?_)
  obtain ⟨f1, rfl, rfl⟩ := hp
  refine W.eq (g2 := F0 m 11 ls []) rfl ?_
  refine lv_aload_n hx hb dX1_addRow_11 rfl (lv_at hl 0 rfl) ?_
  refine gf hX hB cw3 rfl in1 1 (by decide) wm_1_98 rfl rfl dX1_addRow_12 ?_
  refine lv_iconst (v := 0) hx hb dX1_addRow_15 (by decide) ?_
  refine lv_iload_n hx hb dX1_addRow_16 rfl (lv_at hl 1 rfl) ?_
  refine lv_iload_n hx hb dX1_addRow_17 rfl (lv_at hl 2 rfl) ?_
  refine lv_lload_n hx hb dX1_addRow_18 rfl (lv_at hl 3 rfl) ?_
  refine call_V (n := 4) (As := [.int 0, .int p0, .int p1, .long p2]) (rest := []) hX hB (k_X3_addLine κ l a r q f1 9 0 p0 p1 p2 (by decide)) ⟨rfl, by decide, by decide, by decide +kernel⟩ wm_2_100 wm_2_23 wm_2_24 wm_1_2 wm_2_25 ⟨Nat.le_of_ble_eq_true rfl, Nat.le_of_ble_eq_true rfl⟩ ⟨Nat.le_of_ble_eq_true rfl, Nat.le_of_ble_eq_true rfl⟩ (cwG (i := 9) (by decide)) rfl rfl rfl hl.1 rfl (Nat.le_of_ble_eq_true rfl) dX1_addRow_19 (fun o w' H locs hp hB => ?_)
  obtain ⟨f2, rfl, rfl⟩ := hp
  refine W.eq (g2 := F0 m 22 ls []) rfl ?_
  refine lv_aload_n hx hb dX1_addRow_22 rfl (lv_at hl 0 rfl) ?_
  refine lv_aload_n hx hb dX1_addRow_23 rfl (lv_at hl 0 rfl) ?_
  refine gf hX hB cw3 rfl in1 0 (by decide) wm_1_95 rfl rfl dX1_addRow_24 ?_
  refine lv_ldc2 (own := RX1) (v := 1000000000) hx hb hX.1.2.2.2.1 (hX.1.2.2.2.2 _ wm_2_101) dX1_addRow_27 ?_
  refine call_V (n := 1) (As := [.long 1000000000]) (rest := [.ref (a 3)]) hX hB (k_X3_isWithin κ l a r q f2 8 1000000000 (by decide)) ⟨rfl, by decide, by decide, by decide +kernel⟩ wm_2_102 wm_2_28 wm_2_29 wm_1_2 wm_2_30 ⟨Nat.le_of_ble_eq_true rfl, Nat.le_of_ble_eq_true rfl⟩ ⟨Nat.le_of_ble_eq_true rfl, Nat.le_of_ble_eq_true rfl⟩ (cwG (i := 8) (by decide)) rfl rfl rfl hl.1 rfl (Nat.le_of_ble_eq_true rfl) dX1_addRow_30 (fun o w' H locs hp hB => ?_)
  obtain ⟨x3, rfl, bx3, rfl⟩ := hp
  refine W.eq (g2 := F0 m 33 ls [.int x3, .ref (a 3)]) rfl ?_
  refine lv_if_eq (tgt := 49) hx hb dX1_addRow_33 (by decide) (fun c4 => ?_) (fun c4 => ?_)
  · refine lv_iconst (v := 1) hx hb dX1_addRow_49 (by decide) ?_
    refine lv_goto (tgt := 54) hx hb dX1_addRow_50 (by decide) ?_
    refine pf (ty := .boolean) hX hB cw3 rfl in1 tyX1_ok nmX1 3 (by decide) wm_1_104 rfl rfl rfl rfl rfl (Nat.le_of_ble_eq_true rfl) (cwSQ1 _) dX1_addRow_54 (fun H locs hB => ?_)
    rw [← hQ]
    exact end_v hX hB hA3 rfl ⟨(va_up q 1 1), f2, rfl, rfl, rfl⟩ (Nat.le_of_ble_eq_true rfl) (Nat.le_of_ble_eq_true rfl) dX1_addRow_57
  · refine lv_aload_n hx hb dX1_addRow_36 rfl (lv_at hl 0 rfl) ?_
    refine gf hX hB cw3 rfl in1 1 (by decide) wm_1_98 rfl rfl dX1_addRow_37 ?_
    refine lv_ldc2 (own := RX1) (v := 1000000000) hx hb hX.1.2.2.2.1 (hX.1.2.2.2.2 _ wm_2_101) dX1_addRow_40 ?_
    refine call_V (n := 1) (As := [.long 1000000000]) (rest := [.ref (a 3)]) hX hB (k_X3_isWithin κ l a r q f2 9 1000000000 (by decide)) ⟨rfl, by decide, by decide, by decide +kernel⟩ wm_2_102 wm_2_28 wm_2_29 wm_1_2 wm_2_30 ⟨Nat.le_of_ble_eq_true rfl, Nat.le_of_ble_eq_true rfl⟩ ⟨Nat.le_of_ble_eq_true rfl, Nat.le_of_ble_eq_true rfl⟩ (cwG (i := 9) (by decide)) rfl rfl rfl hl.1 rfl (Nat.le_of_ble_eq_true rfl) dX1_addRow_43 (fun o w' H locs hp hB => ?_)
    obtain ⟨x5, rfl, bx5, rfl⟩ := hp
    refine W.eq (g2 := F0 m 46 ls [.int x5, .ref (a 3)]) rfl ?_
    refine lv_if_ne (tgt := 53) hx hb dX1_addRow_46 (by decide) (fun c6 => ?_) (fun c6 => ?_)
    · refine lv_iconst (v := 0) hx hb dX1_addRow_53 (by decide) ?_
      refine pf (ty := .boolean) hX hB cw3 rfl in1 tyX1_ok nmX1 3 (by decide) wm_1_104 rfl rfl rfl rfl rfl (Nat.le_of_ble_eq_true rfl) (cwSQ1 _) dX1_addRow_54 (fun H locs hB => ?_)
      rw [← hQ]
      exact end_v hX hB hA3 rfl ⟨(va_up q 1 0), f2, rfl, rfl, rfl⟩ (Nat.le_of_ble_eq_true rfl) (Nat.le_of_ble_eq_true rfl) dX1_addRow_57
    · refine lv_iconst (v := 1) hx hb dX1_addRow_49 (by decide) ?_
      refine lv_goto (tgt := 54) hx hb dX1_addRow_50 (by decide) ?_
      refine pf (ty := .boolean) hX hB cw3 rfl in1 tyX1_ok nmX1 3 (by decide) wm_1_104 rfl rfl rfl rfl rfl (Nat.le_of_ble_eq_true rfl) (cwSQ1 _) dX1_addRow_54 (fun H locs hB => ?_)
      rw [← hQ]
      exact end_v hX hB hA3 rfl ⟨(va_up q 1 1), f2, rfl, rfl, rfl⟩ (Nat.le_of_ble_eq_true rfl) (Nat.le_of_ble_eq_true rfl) dX1_addRow_57
set_option maxHeartbeats 4000000 in
set_option maxRecDepth 100000 in
theorem k_X1_addColumn (κ : Kt) (l : Launch) (a : Nat → Nat) (r q : Nat → Int32) (f : Nat → Nat → Int64) (p0 : Int32) (p1 : Int32) (p2 : Int64)  : CM κ l yX1_addColumn cX1_addColumn 5 (none) 2 51 0 0 [.ref (a 3), .int p0, .int p1, .long p2] (cw κ a r q f) (fun o w' => ∃ (q' : Nat → Int32) (f' : Nat → Nat → Int64), o = none ∧ q' 4 = q 4 ∧ w' = cw κ a r q' f') := by
  refine CM_begin (plainFor_of_name (by decide)) (Nat.le_of_ble_eq_true rfl) ?_
  intro p e s m args below meth c A Q hX hnm hA3 hQ hB ls hl
  have hx := hX.1.1
  have hb := hX.1.2.1
  have hl : lv_has ls 5 [(0, .ref (a 3)), (1, .int p0), (2, .int p1), (3, .long p2)] := hl
  refine lv_aload_n hx hb dX1_addColumn_0 rfl (lv_at hl 0 rfl) ?_
  refine gf hX hB cw3 rfl in1 0 (by decide) wm_1_95 rfl rfl dX1_addColumn_1 ?_
  refine lv_iconst (v := 1) hx hb dX1_addColumn_4 (by decide) ?_
  refine lv_iload_n hx hb dX1_addColumn_5 rfl (lv_at hl 1 rfl) ?_
  refine lv_iload_n hx hb dX1_addColumn_6 rfl (lv_at hl 2 rfl) ?_
  refine lv_lload_n hx hb dX1_addColumn_7 rfl (lv_at hl 3 rfl) ?_
  refine call_V (n := 4) (As := [.int 1, .int p0, .int p1, .long p2]) (rest := []) hX hB (k_X3_addLine κ l a r q f 8 1 p0 p1 p2 (by decide)) ⟨rfl, by decide, by decide, by decide +kernel⟩ wm_2_100 wm_2_23 wm_2_24 wm_1_2 wm_2_25 ⟨Nat.le_of_ble_eq_true rfl, Nat.le_of_ble_eq_true rfl⟩ ⟨Nat.le_of_ble_eq_true rfl, Nat.le_of_ble_eq_true rfl⟩ (cwG (i := 8) (by decide)) rfl rfl rfl hl.1 rfl (Nat.le_of_ble_eq_true rfl) dX1_addColumn_8 (fun o w' H locs hp hB => ?_)
  obtain ⟨f1, rfl, rfl⟩ := hp
  refine W.eq (g2 := F0 m 11 ls []) rfl ?_
  refine lv_aload_n hx hb dX1_addColumn_11 rfl (lv_at hl 0 rfl) ?_
  refine gf hX hB cw3 rfl in1 2 (by decide) wm_1_101 rfl rfl dX1_addColumn_12 ?_
  refine lv_iconst (v := 1) hx hb dX1_addColumn_15 (by decide) ?_
  refine lv_iload_n hx hb dX1_addColumn_16 rfl (lv_at hl 1 rfl) ?_
  refine lv_iload_n hx hb dX1_addColumn_17 rfl (lv_at hl 2 rfl) ?_
  refine lv_lload_n hx hb dX1_addColumn_18 rfl (lv_at hl 3 rfl) ?_
  refine call_V (n := 4) (As := [.int 1, .int p0, .int p1, .long p2]) (rest := []) hX hB (k_X3_addLine κ l a r q f1 10 1 p0 p1 p2 (by decide)) ⟨rfl, by decide, by decide, by decide +kernel⟩ wm_2_100 wm_2_23 wm_2_24 wm_1_2 wm_2_25 ⟨Nat.le_of_ble_eq_true rfl, Nat.le_of_ble_eq_true rfl⟩ ⟨Nat.le_of_ble_eq_true rfl, Nat.le_of_ble_eq_true rfl⟩ (cwG (i := 10) (by decide)) rfl rfl rfl hl.1 rfl (Nat.le_of_ble_eq_true rfl) dX1_addColumn_19 (fun o w' H locs hp hB => ?_)
  obtain ⟨f2, rfl, rfl⟩ := hp
  refine W.eq (g2 := F0 m 22 ls []) rfl ?_
  refine lv_aload_n hx hb dX1_addColumn_22 rfl (lv_at hl 0 rfl) ?_
  refine lv_aload_n hx hb dX1_addColumn_23 rfl (lv_at hl 0 rfl) ?_
  refine gf hX hB cw3 rfl in1 0 (by decide) wm_1_95 rfl rfl dX1_addColumn_24 ?_
  refine lv_ldc2 (own := RX1) (v := 1000000000) hx hb hX.1.2.2.2.1 (hX.1.2.2.2.2 _ wm_2_101) dX1_addColumn_27 ?_
  refine call_V (n := 1) (As := [.long 1000000000]) (rest := [.ref (a 3)]) hX hB (k_X3_isWithin κ l a r q f2 8 1000000000 (by decide)) ⟨rfl, by decide, by decide, by decide +kernel⟩ wm_2_102 wm_2_28 wm_2_29 wm_1_2 wm_2_30 ⟨Nat.le_of_ble_eq_true rfl, Nat.le_of_ble_eq_true rfl⟩ ⟨Nat.le_of_ble_eq_true rfl, Nat.le_of_ble_eq_true rfl⟩ (cwG (i := 8) (by decide)) rfl rfl rfl hl.1 rfl (Nat.le_of_ble_eq_true rfl) dX1_addColumn_30 (fun o w' H locs hp hB => ?_)
  obtain ⟨x3, rfl, bx3, rfl⟩ := hp
  refine W.eq (g2 := F0 m 33 ls [.int x3, .ref (a 3)]) rfl ?_
  refine lv_if_eq (tgt := 49) hx hb dX1_addColumn_33 (by decide) (fun c4 => ?_) (fun c4 => ?_)
  · refine lv_iconst (v := 1) hx hb dX1_addColumn_49 (by decide) ?_
    refine lv_goto (tgt := 54) hx hb dX1_addColumn_50 (by decide) ?_
    refine pf (ty := .boolean) hX hB cw3 rfl in1 tyX1_ok nmX1 3 (by decide) wm_1_104 rfl rfl rfl rfl rfl (Nat.le_of_ble_eq_true rfl) (cwSQ1 _) dX1_addColumn_54 (fun H locs hB => ?_)
    rw [← hQ]
    exact end_v hX hB hA3 rfl ⟨(va_up q 1 1), f2, rfl, rfl, rfl⟩ (Nat.le_of_ble_eq_true rfl) (Nat.le_of_ble_eq_true rfl) dX1_addColumn_57
  · refine lv_aload_n hx hb dX1_addColumn_36 rfl (lv_at hl 0 rfl) ?_
    refine gf hX hB cw3 rfl in1 2 (by decide) wm_1_101 rfl rfl dX1_addColumn_37 ?_
    refine lv_ldc2 (own := RX1) (v := 1000000000) hx hb hX.1.2.2.2.1 (hX.1.2.2.2.2 _ wm_2_101) dX1_addColumn_40 ?_
    refine call_V (n := 1) (As := [.long 1000000000]) (rest := [.ref (a 3)]) hX hB (k_X3_isWithin κ l a r q f2 10 1000000000 (by decide)) ⟨rfl, by decide, by decide, by decide +kernel⟩ wm_2_102 wm_2_28 wm_2_29 wm_1_2 wm_2_30 ⟨Nat.le_of_ble_eq_true rfl, Nat.le_of_ble_eq_true rfl⟩ ⟨Nat.le_of_ble_eq_true rfl, Nat.le_of_ble_eq_true rfl⟩ (cwG (i := 10) (by decide)) rfl rfl rfl hl.1 rfl (Nat.le_of_ble_eq_true rfl) dX1_addColumn_43 (fun o w' H locs hp hB => ?_)
    obtain ⟨x5, rfl, bx5, rfl⟩ := hp
    refine W.eq (g2 := F0 m 46 ls [.int x5, .ref (a 3)]) rfl ?_
    refine lv_if_ne (tgt := 53) hx hb dX1_addColumn_46 (by decide) (fun c6 => ?_) (fun c6 => ?_)
    · refine lv_iconst (v := 0) hx hb dX1_addColumn_53 (by decide) ?_
      refine pf (ty := .boolean) hX hB cw3 rfl in1 tyX1_ok nmX1 3 (by decide) wm_1_104 rfl rfl rfl rfl rfl (Nat.le_of_ble_eq_true rfl) (cwSQ1 _) dX1_addColumn_54 (fun H locs hB => ?_)
      rw [← hQ]
      exact end_v hX hB hA3 rfl ⟨(va_up q 1 0), f2, rfl, rfl, rfl⟩ (Nat.le_of_ble_eq_true rfl) (Nat.le_of_ble_eq_true rfl) dX1_addColumn_57
    · refine lv_iconst (v := 1) hx hb dX1_addColumn_49 (by decide) ?_
      refine lv_goto (tgt := 54) hx hb dX1_addColumn_50 (by decide) ?_
      refine pf (ty := .boolean) hX hB cw3 rfl in1 tyX1_ok nmX1 3 (by decide) wm_1_104 rfl rfl rfl rfl rfl (Nat.le_of_ble_eq_true rfl) (cwSQ1 _) dX1_addColumn_54 (fun H locs hB => ?_)
      rw [← hQ]
      exact end_v hX hB hA3 rfl ⟨(va_up q 1 1), f2, rfl, rfl, rfl⟩ (Nat.le_of_ble_eq_true rfl) (Nat.le_of_ble_eq_true rfl) dX1_addColumn_57
set_option maxHeartbeats 4000000 in
set_option maxRecDepth 100000 in
theorem k_X1_isCrossClear (κ : Kt) (l : Launch) (a : Nat → Nat) (r q : Nat → Int32) (f : Nat → Nat → Int64) (p0 : Int32)  : CM κ l yX1_isCrossClear cX1_isCrossClear 3 (some .boolean) 1 22 0 0 [.ref (a 3), .int p0] (cw κ a r q f) (fun o w' => ∃ x : Int32, o = some (.int x) ∧ (x = 0 ∨ x = 1) ∧ w' = cw κ a r q f) := by
  refine CM_begin (plainFor_of_name (by decide)) (Nat.le_of_ble_eq_true rfl) ?_
  intro p e s m args below meth c A Q hX hnm hA3 hQ hB ls hl
  have hx := hX.1.1
  have hb := hX.1.2.1
  have hl : lv_has ls 3 [(0, .ref (a 3)), (1, .int p0)] := hl
  refine lv_iload_n hx hb dX1_isCrossClear_0 rfl (lv_at hl 1 rfl) ?_
  refine lv_iconst (v := 1) hx hb dX1_isCrossClear_1 (by decide) ?_
  refine lv_iadd hx hb dX1_isCrossClear_2 ?_
  refine lv_istore_n (lv' := [(2, .int (p0 + 1)), (0, .ref (a 3)), (1, .int p0)]) hx hb dX1_isCrossClear_3 rfl hl (by decide) rfl (fun ls hl => ?_)
  have lp4 : ∀ (nn : Nat) (y2_4 : Int32) (H : Heap) (locs : List Loc), gap (r (2 * 8)) y2_4 < nn → Bd κ A s (cw κ a r q f) H locs → ∀ ls : Array Slot, lv_has ls 3 [(2, .int y2_4), (0, .ref (a 3)), (1, .int p0)] → W p l e (Rm 1 22 0 0) s m args below meth c H locs 0 0 Q (F0 m 4 ls []) := by
    intro nn
    induction nn with
    | zero => intro y2_4 H locs hμ; exact absurd hμ (Nat.not_lt_zero _)
    | succ nn ih4 =>
      intro y2_4 H locs hμ4 hB ls hl
      refine lv_iload_n hx hb dX1_isCrossClear_4 rfl (lv_at hl 0 rfl) ?_
      refine lv_aload_n hx hb dX1_isCrossClear_5 rfl (lv_at hl 1 rfl) ?_
      refine gf hX hB cw3 rfl in1 0 (by decide) wm_1_95 rfl rfl dX1_isCrossClear_6 ?_
      refine gfN hX hB (cwG (i := 8) (by decide)) rfl in3 1 (by decide) wn_1_49 rfl rfl dX1_isCrossClear_9 ?_
      refine lv_icmp_ge (tgt := 37) hx hb dX1_isCrossClear_12 (by decide) (fun c25 => ?_) (fun c25 => ?_)
      · refine lv_iload_n hx hb dX1_isCrossClear_37 rfl (lv_at hl 2 rfl) ?_
        refine lv_iconst (v := 1) hx hb dX1_isCrossClear_38 (by decide) ?_
        refine lv_iadd hx hb dX1_isCrossClear_39 ?_
        refine lv_istore_n (lv' := [(2, .int (p0 + 1)), (0, .ref (a 3)), (1, .int p0)]) hx hb dX1_isCrossClear_40 rfl hl (by decide) rfl (fun ls hl => ?_)
        have lp41 : ∀ (nn : Nat) (y2_41 : Int32) (H : Heap) (locs : List Loc), gap (r (2 * 8 + 1)) y2_41 < nn → Bd κ A s (cw κ a r q f) H locs → ∀ ls : Array Slot, lv_has ls 3 [(2, .int y2_41), (0, .ref (a 3)), (1, .int p0)] → W p l e (Rm 1 22 0 0) s m args below meth c H locs 0 0 Q (F0 m 41 ls []) := by
          intro nn
          induction nn with
          | zero => intro y2_41 H locs hμ; exact absurd hμ (Nat.not_lt_zero _)
          | succ nn ih41 =>
            intro y2_41 H locs hμ41 hB ls hl
            refine lv_iload_n hx hb dX1_isCrossClear_41 rfl (lv_at hl 0 rfl) ?_
            refine lv_aload_n hx hb dX1_isCrossClear_42 rfl (lv_at hl 1 rfl) ?_
            refine gf hX hB cw3 rfl in1 0 (by decide) wm_1_95 rfl rfl dX1_isCrossClear_43 ?_
            refine gfN hX hB (cwG (i := 8) (by decide)) rfl in3 2 (by decide) wn_1_54 rfl rfl dX1_isCrossClear_46 ?_
            refine lv_icmp_ge (tgt := 74) hx hb dX1_isCrossClear_49 (by decide) (fun c32 => ?_) (fun c32 => ?_)
            · refine lv_iconst (v := 1) hx hb dX1_isCrossClear_74 (by decide) ?_
              rw [← hQ]
              exact end_i hX hB hA3 rfl rfl ⟨1, rfl, Or.inr rfl, rfl⟩ (Nat.le_of_ble_eq_true rfl) (Nat.le_of_ble_eq_true rfl) dX1_isCrossClear_75
            · refine lv_aload_n hx hb dX1_isCrossClear_52 rfl (lv_at hl 1 rfl) ?_
              refine gf hX hB cw3 rfl in1 0 (by decide) wm_1_95 rfl rfl dX1_isCrossClear_53 ?_
              refine lv_iload_n hx hb dX1_isCrossClear_56 rfl (lv_at hl 2 rfl) ?_
              refine lv_iload_n hx hb dX1_isCrossClear_57 rfl (lv_at hl 0 rfl) ?_
              refine call_V (n := 2) (As := [.int p0, .int y2_41]) (rest := []) hX hB (k_X3_get κ l a r q f 8 p0 y2_41 (by decide)) ⟨rfl, by decide, by decide, by decide +kernel⟩ wm_2_87 wm_1_187 wm_1_188 wm_1_2 wm_1_189 ⟨Nat.le_of_ble_eq_true rfl, Nat.le_of_ble_eq_true rfl⟩ ⟨Nat.le_of_ble_eq_true rfl, Nat.le_of_ble_eq_true rfl⟩ (cwG (i := 8) (by decide)) rfl rfl rfl hl.1 rfl (Nat.le_of_ble_eq_true rfl) dX1_isCrossClear_58 (fun o w' H locs hp hB => ?_)
              obtain ⟨x33, rfl, rfl⟩ := hp
              refine W.eq (g2 := F0 m 61 ls [.long x33]) rfl ?_
              refine lv_lconst (v := 0) hx hb dX1_isCrossClear_61 (by decide) ?_
              refine W.lcmp hx hb dX1_isCrossClear_62 ?_
              refine lv_if_eq (tgt := 68) hx hb dX1_isCrossClear_63 (by decide) (fun c34 => ?_) (fun c34 => ?_)
              · refine lv_iinc (v := y2_41 + 1) (lv' := [(2, .int (y2_41 + 1)), (0, .ref (a 3)), (1, .int p0)]) hx hb dX1_isCrossClear_68 hl (k := 0) rfl rfl (by decide) rfl (fun ls hl => ?_)
                refine lv_goto (tgt := 41) hx hb dX1_isCrossClear_71 (by decide) ?_
                exact ih41 (y2_41 + 1) _ _  (gap_step c32 hμ41) hB _ hl
              · refine lv_iconst (v := 0) hx hb dX1_isCrossClear_66 (by decide) ?_
                rw [← hQ]
                exact end_i hX hB hA3 rfl rfl ⟨0, rfl, Or.inl rfl, rfl⟩ (Nat.le_of_ble_eq_true rfl) (Nat.le_of_ble_eq_true rfl) dX1_isCrossClear_67
        exact lp41 _ (p0 + 1) _ _  (Nat.lt_succ_self _) hB _ hl
      · refine lv_aload_n hx hb dX1_isCrossClear_15 rfl (lv_at hl 1 rfl) ?_
        refine gf hX hB cw3 rfl in1 0 (by decide) wm_1_95 rfl rfl dX1_isCrossClear_16 ?_
        refine lv_iload_n hx hb dX1_isCrossClear_19 rfl (lv_at hl 0 rfl) ?_
        refine lv_iload_n hx hb dX1_isCrossClear_20 rfl (lv_at hl 2 rfl) ?_
        refine call_V (n := 2) (As := [.int y2_4, .int p0]) (rest := []) hX hB (k_X3_get κ l a r q f 8 y2_4 p0 (by decide)) ⟨rfl, by decide, by decide, by decide +kernel⟩ wm_2_87 wm_1_187 wm_1_188 wm_1_2 wm_1_189 ⟨Nat.le_of_ble_eq_true rfl, Nat.le_of_ble_eq_true rfl⟩ ⟨Nat.le_of_ble_eq_true rfl, Nat.le_of_ble_eq_true rfl⟩ (cwG (i := 8) (by decide)) rfl rfl rfl hl.1 rfl (Nat.le_of_ble_eq_true rfl) dX1_isCrossClear_21 (fun o w' H locs hp hB => ?_)
        obtain ⟨x35, rfl, rfl⟩ := hp
        refine W.eq (g2 := F0 m 24 ls [.long x35]) rfl ?_
        refine lv_lconst (v := 0) hx hb dX1_isCrossClear_24 (by decide) ?_
        refine W.lcmp hx hb dX1_isCrossClear_25 ?_
        refine lv_if_eq (tgt := 31) hx hb dX1_isCrossClear_26 (by decide) (fun c36 => ?_) (fun c36 => ?_)
        · refine lv_iinc (v := y2_4 + 1) (lv' := [(2, .int (y2_4 + 1)), (0, .ref (a 3)), (1, .int p0)]) hx hb dX1_isCrossClear_31 hl (k := 0) rfl rfl (by decide) rfl (fun ls hl => ?_)
          refine lv_goto (tgt := 4) hx hb dX1_isCrossClear_34 (by decide) ?_
          exact ih4 (y2_4 + 1) _ _  (gap_step c25 hμ4) hB _ hl
        · refine lv_iconst (v := 0) hx hb dX1_isCrossClear_29 (by decide) ?_
          rw [← hQ]
          exact end_i hX hB hA3 rfl rfl ⟨0, rfl, Or.inl rfl, rfl⟩ (Nat.le_of_ble_eq_true rfl) (Nat.le_of_ble_eq_true rfl) dX1_isCrossClear_30
  exact lp4 _ (p0 + 1) _ _  (Nat.lt_succ_self _) hB _ hl
set_option maxHeartbeats 4000000 in
set_option maxRecDepth 100000 in
theorem k_X1_findUndividedRow (κ : Kt) (l : Launch) (a : Nat → Nat) (r q : Nat → Int32) (f : Nat → Nat → Int64) (p0 : Int32)  : CM κ l yX1_findUndividedRow cX1_findUndividedRow 4 (some .int) 1 23 0 0 [.ref (a 3), .int p0] (cw κ a r q f) (fun o w' => ∃ x : Int32, o = some (.int x) ∧ w' = cw κ a r q f) := by
  refine CM_begin (plainFor_of_name (by decide)) (Nat.le_of_ble_eq_true rfl) ?_
  intro p e s m args below meth c A Q hX hnm hA3 hQ hB ls hl
  have hx := hX.1.1
  have hb := hX.1.2.1
  have hl : lv_has ls 4 [(0, .ref (a 3)), (1, .int p0)] := hl
  refine lv_iload_n hx hb dX1_findUndividedRow_0 rfl (lv_at hl 1 rfl) ?_
  refine lv_iconst (v := 1) hx hb dX1_findUndividedRow_1 (by decide) ?_
  refine lv_iadd hx hb dX1_findUndividedRow_2 ?_
  refine lv_istore_n (lv' := [(2, .int (p0 + 1)), (0, .ref (a 3)), (1, .int p0)]) hx hb dX1_findUndividedRow_3 rfl hl (by decide) rfl (fun ls hl => ?_)
  have lp4 : ∀ (nn : Nat) (y2_4 : Int32) (H : Heap) (locs : List Loc), gap (r (2 * 8)) y2_4 < nn → Bd κ A s (cw κ a r q f) H locs → ∀ ls : Array Slot, lv_has ls 4 [(2, .int y2_4), (0, .ref (a 3)), (1, .int p0)] → W p l e (Rm 1 23 0 0) s m args below meth c H locs 0 0 Q (F0 m 4 ls []) := by
    intro nn
    induction nn with
    | zero => intro y2_4 H locs hμ; exact absurd hμ (Nat.not_lt_zero _)
    | succ nn ih4 =>
      intro y2_4 H locs hμ4 hB ls hl
      refine lv_iload_n hx hb dX1_findUndividedRow_4 rfl (lv_at hl 0 rfl) ?_
      refine lv_aload_n hx hb dX1_findUndividedRow_5 rfl (lv_at hl 1 rfl) ?_
      refine gf hX hB cw3 rfl in1 0 (by decide) wm_1_95 rfl rfl dX1_findUndividedRow_6 ?_
      refine gfN hX hB (cwG (i := 8) (by decide)) rfl in3 1 (by decide) wn_1_49 rfl rfl dX1_findUndividedRow_9 ?_
      refine lv_icmp_ge (tgt := 68) hx hb dX1_findUndividedRow_12 (by decide) (fun c33 => ?_) (fun c33 => ?_)
      · refine lv_iconst (v := (-1)) hx hb dX1_findUndividedRow_68 (by decide) ?_
        rw [← hQ]
        exact end_i hX hB hA3 rfl rfl ⟨(-1), rfl, rfl⟩ (Nat.le_of_ble_eq_true rfl) (Nat.le_of_ble_eq_true rfl) dX1_findUndividedRow_69
      · refine lv_iload_n hx hb dX1_findUndividedRow_15 rfl (lv_at hl 2 rfl) ?_
        refine lv_iconst (v := 1) hx hb dX1_findUndividedRow_16 (by decide) ?_
        refine lv_iadd hx hb dX1_findUndividedRow_17 ?_
        refine lv_istore_n (lv' := [(3, .int (p0 + 1)), (2, .int y2_4), (0, .ref (a 3)), (1, .int p0)]) hx hb dX1_findUndividedRow_18 rfl hl (by decide) rfl (fun ls hl => ?_)
        have lp19 : ∀ (nn : Nat) (y3_19 : Int32) (H : Heap) (locs : List Loc), gap (r (2 * 8 + 1)) y3_19 < nn → Bd κ A s (cw κ a r q f) H locs → ∀ ls : Array Slot, lv_has ls 4 [(3, .int y3_19), (2, .int y2_4), (0, .ref (a 3)), (1, .int p0)] → W p l e (Rm 1 23 0 0) s m args below meth c H locs 0 0 Q (F0 m 19 ls []) := by
          intro nn
          induction nn with
          | zero => intro y3_19 H locs hμ; exact absurd hμ (Nat.not_lt_zero _)
          | succ nn ih19 =>
            intro y3_19 H locs hμ19 hB ls hl
            refine lv_iload_n hx hb dX1_findUndividedRow_19 rfl (lv_at hl 0 rfl) ?_
            refine lv_aload_n hx hb dX1_findUndividedRow_20 rfl (lv_at hl 2 rfl) ?_
            refine gf hX hB cw3 rfl in1 0 (by decide) wm_1_95 rfl rfl dX1_findUndividedRow_21 ?_
            refine gfN hX hB (cwG (i := 8) (by decide)) rfl in3 2 (by decide) wn_1_54 rfl rfl dX1_findUndividedRow_24 ?_
            refine lv_icmp_ge (tgt := 62) hx hb dX1_findUndividedRow_27 (by decide) (fun c44 => ?_) (fun c44 => ?_)
            · refine lv_iinc (v := y2_4 + 1) (lv' := [(2, .int (y2_4 + 1)), (3, .int y3_19), (0, .ref (a 3)), (1, .int p0)]) hx hb dX1_findUndividedRow_62 hl (k := 1) rfl rfl (by decide) rfl (fun ls hl => ?_)
              refine lv_goto (tgt := 4) hx hb dX1_findUndividedRow_65 (by decide) ?_
              exact ih4 (y2_4 + 1) _ _  (gap_step c33 hμ4) hB _ (lv_sub hl [0, 2, 3] rfl)
            · refine lv_aload_n hx hb dX1_findUndividedRow_30 rfl (lv_at hl 2 rfl) ?_
              refine gf hX hB cw3 rfl in1 0 (by decide) wm_1_95 rfl rfl dX1_findUndividedRow_31 ?_
              refine lv_iload_n hx hb dX1_findUndividedRow_34 rfl (lv_at hl 3 rfl) ?_
              refine lv_iload_n hx hb dX1_findUndividedRow_35 rfl (lv_at hl 3 rfl) ?_
              refine call_V (n := 2) (As := [.int p0, .int p0]) (rest := []) hX hB (k_X3_get κ l a r q f 8 p0 p0 (by decide)) ⟨rfl, by decide, by decide, by decide +kernel⟩ wm_2_87 wm_1_187 wm_1_188 wm_1_2 wm_1_189 ⟨Nat.le_of_ble_eq_true rfl, Nat.le_of_ble_eq_true rfl⟩ ⟨Nat.le_of_ble_eq_true rfl, Nat.le_of_ble_eq_true rfl⟩ (cwG (i := 8) (by decide)) rfl rfl rfl hl.1 rfl (Nat.le_of_ble_eq_true rfl) dX1_findUndividedRow_36 (fun o w' H locs hp hB => ?_)
              obtain ⟨x45, rfl, rfl⟩ := hp
              refine W.eq (g2 := F0 m 39 ls [.long x45]) rfl ?_
              refine lv_aload_n hx hb dX1_findUndividedRow_39 rfl (lv_at hl 2 rfl) ?_
              refine gf hX hB cw3 rfl in1 0 (by decide) wm_1_95 rfl rfl dX1_findUndividedRow_40 ?_
              refine lv_iload_n hx hb dX1_findUndividedRow_43 rfl (lv_at hl 1 rfl) ?_
              refine lv_iload_n hx hb dX1_findUndividedRow_44 rfl (lv_at hl 0 rfl) ?_
              refine call_V (n := 2) (As := [.int y2_4, .int y3_19]) (rest := [.long x45]) hX hB (k_X3_get κ l a r q f 8 y2_4 y3_19 (by decide)) ⟨rfl, by decide, by decide, by decide +kernel⟩ wm_2_87 wm_1_187 wm_1_188 wm_1_2 wm_1_189 ⟨Nat.le_of_ble_eq_true rfl, Nat.le_of_ble_eq_true rfl⟩ ⟨Nat.le_of_ble_eq_true rfl, Nat.le_of_ble_eq_true rfl⟩ (cwG (i := 8) (by decide)) rfl rfl rfl hl.1 rfl (Nat.le_of_ble_eq_true rfl) dX1_findUndividedRow_45 (fun o w' H locs hp hB => ?_)
              obtain ⟨x46, rfl, rfl⟩ := hp
              refine W.eq (g2 := F0 m 48 ls [.long x46, .long x45]) rfl ?_
              refine call_SN (n := 2) (As := [.long x45, .long x46]) (rest := []) hX hB (k_X5_divides κ l (cw κ a r q f) x45 x46 ) ⟨by decide, by decide, by decide +kernel⟩ wn_2_115 wm_2_116 wm_1_1 wm_2_117 ⟨Nat.le_of_ble_eq_true rfl, Nat.le_of_ble_eq_true rfl⟩ ⟨Nat.le_of_ble_eq_true rfl, Nat.le_of_ble_eq_true rfl⟩ rfl hl.1 rfl (Nat.le_of_ble_eq_true rfl) dX1_findUndividedRow_48 (fun o w' H locs hp hB => ?_)
              obtain ⟨x47, rfl, bx47, hw9⟩ := hp
              rw [hw9] at hB
              refine W.eq (g2 := F0 m 51 ls [.int x47]) rfl ?_
              refine lv_if_ne (tgt := 56) hx hb dX1_findUndividedRow_51 (by decide) (fun c48 => ?_) (fun c48 => ?_)
              · refine lv_iinc (v := y3_19 + 1) (lv' := [(3, .int (y3_19 + 1)), (2, .int y2_4), (0, .ref (a 3)), (1, .int p0)]) hx hb dX1_findUndividedRow_56 hl (k := 0) rfl rfl (by decide) rfl (fun ls hl => ?_)
                refine lv_goto (tgt := 19) hx hb dX1_findUndividedRow_59 (by decide) ?_
                exact ih19 (y3_19 + 1) _ _  (gap_step c44 hμ19) hB _ hl
              · refine lv_iload_n hx hb dX1_findUndividedRow_54 rfl (lv_at hl 1 rfl) ?_
                rw [← hQ]
                exact end_i hX hB hA3 rfl rfl ⟨y2_4, rfl, rfl⟩ (Nat.le_of_ble_eq_true rfl) (Nat.le_of_ble_eq_true rfl) dX1_findUndividedRow_55
        exact lp19 _ (p0 + 1) _ _  (Nat.lt_succ_self _) hB _ hl
  exact lp4 _ (p0 + 1) _ _  (Nat.lt_succ_self _) hB _ hl
set_option maxHeartbeats 4000000 in
set_option maxRecDepth 100000 in
theorem k_X1_clearCross (κ : Kt) (l : Launch) (a : Nat → Nat) (r q : Nat → Int32) (f : Nat → Nat → Int64) (p0 : Int32)  : CM κ l yX1_clearCross cX1_clearCross 5 (some .boolean) 3 75 0 0 [.ref (a 3), .int p0] (cw κ a r q f) (fun o w' => ∃ x : Int32, ∃ (q' : Nat → Int32) (f' : Nat → Nat → Int64), o = some (.int x) ∧ (x = 0 ∨ x = 1) ∧ q' 4 = q 4 ∧ w' = cw κ a r q' f') := by
  refine CM_begin (plainFor_of_name (by decide)) (Nat.le_of_ble_eq_true rfl) ?_
  intro p e s m args below meth c A Q hX hnm hA3 hQ hB ls hl
  have hx := hX.1.1
  have hb := hX.1.2.1
  have hl : lv_has ls 5 [(0, .ref (a 3)), (1, .int p0)] := hl
  refine lv_iconst (v := 0) hx hb dX1_clearCross_0 (by decide) ?_
  refine lv_istore_n (lv' := [(2, .int 0), (0, .ref (a 3)), (1, .int p0)]) hx hb dX1_clearCross_1 rfl hl (by decide) rfl (fun ls hl => ?_)
  have lp2 : ∀ (nn : Nat) (y2_2 : Int32) (q_2 : Nat → Int32) (f_2 : Nat → Nat → Int64) (H : Heap) (locs : List Loc), q_2 4 = q 4 → gap 1000000 y2_2 < nn → Bd κ A s (cw κ a r q_2 f_2) H locs → ∀ ls : Array Slot, lv_has ls 5 [(2, .int y2_2), (0, .ref (a 3)), (1, .int p0)] → W p l e (Rm 3 75 0 0) s m args below meth c H locs 0 0 Q (F0 m 2 ls []) := by
    intro nn
    induction nn with
    | zero => intro y2_2 q_2 f_2 H locs hwq_2 hμ; exact absurd hμ (Nat.not_lt_zero _)
    | succ nn ih2 =>
      intro y2_2 q_2 f_2 H locs hwq_2 hμ2 hB ls hl
      refine lv_iload_n hx hb dX1_clearCross_2 rfl (lv_at hl 0 rfl) ?_
      refine lv_ldc (own := RX1) (v := 1000000) hx hb hX.1.2.2.2.1 (hX.1.2.2.2.2 _ wm_2_82) dX1_clearCross_3 ?_
      refine lv_icmp_ge (tgt := 201) hx hb dX1_clearCross_5 (by decide) (fun c923 => ?_) (fun c923 => ?_)
      · refine lv_iconst (v := 0) hx hb dX1_clearCross_201 (by decide) ?_
        rw [← hQ]
        exact end_i hX hB hA3 rfl rfl ⟨0, q_2, f_2, rfl, Or.inl rfl, hwq_2, rfl⟩ (Nat.le_of_ble_eq_true rfl) (Nat.le_of_ble_eq_true rfl) dX1_clearCross_202
      · refine lv_aload_n hx hb dX1_clearCross_8 rfl (lv_at hl 1 rfl) ?_
        refine gf hX hB cw3 rfl in1 3 (by decide) wm_1_104 rfl rfl dX1_clearCross_9 ?_
        refine lv_if_ne (tgt := 201) hx hb dX1_clearCross_12 (by decide) (fun c924 => ?_) (fun c924 => ?_)
        · refine lv_iconst (v := 0) hx hb dX1_clearCross_201 (by decide) ?_
          rw [← hQ]
          exact end_i hX hB hA3 rfl rfl ⟨0, q_2, f_2, rfl, Or.inl rfl, hwq_2, rfl⟩ (Nat.le_of_ble_eq_true rfl) (Nat.le_of_ble_eq_true rfl) dX1_clearCross_202
        · refine lv_aload_n hx hb dX1_clearCross_15 rfl (lv_at hl 1 rfl) ?_
          refine lv_iload_n hx hb dX1_clearCross_16 rfl (lv_at hl 2 rfl) ?_
          refine call_V (n := 1) (As := [.int p0]) (rest := []) hX hB (k_X1_findLeastPlace κ l a r q_2 f_2 p0) ⟨rfl, by decide, by decide, by decide +kernel⟩ wm_2_83 wm_2_85 wp_8 wm_1_4 wm_2_86 ⟨Nat.le_of_ble_eq_true rfl, Nat.le_of_ble_eq_true rfl⟩ ⟨Nat.le_of_ble_eq_true rfl, Nat.le_of_ble_eq_true rfl⟩ cw3 rfl rfl rfl hl.1 rfl (Nat.le_of_ble_eq_true rfl) dX1_clearCross_17 (fun o w' H locs hp hB => ?_)
          obtain ⟨x925, rfl, rfl⟩ := hp
          refine W.eq (g2 := F0 m 20 ls [.int x925]) rfl ?_
          refine lv_istore_n (lv' := [(3, .int x925), (2, .int y2_2), (0, .ref (a 3)), (1, .int p0)]) hx hb dX1_clearCross_20 rfl hl (by decide) rfl (fun ls hl => ?_)
          refine lv_iload_n hx hb dX1_clearCross_21 rfl (lv_at hl 0 rfl) ?_
          refine lv_if_ge (tgt := 27) hx hb dX1_clearCross_22 (by decide) (fun c926 => ?_) (fun c926 => ?_)
          · refine lv_aload_n hx hb dX1_clearCross_27 rfl (lv_at hl 2 rfl) ?_
            refine lv_iload_n hx hb dX1_clearCross_28 rfl (lv_at hl 0 rfl) ?_
            refine lv_iconst (v := 5) hx hb dX1_clearCross_29 (by decide) ?_
            refine lv_idiv hx hb dX1_clearCross_30 (by decide) ?_
            refine lv_iload_n hx hb dX1_clearCross_31 rfl (lv_at hl 0 rfl) ?_
            refine lv_iconst (v := 5) hx hb dX1_clearCross_32 (by decide) ?_
            refine lv_irem hx hb dX1_clearCross_33 (by decide) ?_
            refine lv_iload_n hx hb dX1_clearCross_34 rfl (lv_at hl 3 rfl) ?_
            refine call_V (n := 3) (As := [.int (x925 / 5), .int (x925 - x925 / 5 * 5), .int p0]) (rest := []) hX hB (k_X1_bring κ l a r q_2 f_2 (x925 / 5) (x925 - x925 / 5 * 5) p0) ⟨rfl, by decide, by decide, by decide +kernel⟩ wm_2_89 wm_2_91 wp_9 wm_1_4 wm_2_92 ⟨Nat.le_of_ble_eq_true rfl, Nat.le_of_ble_eq_true rfl⟩ ⟨Nat.le_of_ble_eq_true rfl, Nat.le_of_ble_eq_true rfl⟩ cw3 rfl rfl rfl hl.1 rfl (Nat.le_of_ble_eq_true rfl) dX1_clearCross_35 (fun o w' H locs hp hB => ?_)
            obtain ⟨f927, rfl, rfl⟩ := hp
            refine W.eq (g2 := F0 m 38 ls []) rfl ?_
            refine lv_iload_n hx hb dX1_clearCross_38 rfl (lv_at hl 3 rfl) ?_
            refine lv_iconst (v := 1) hx hb dX1_clearCross_39 (by decide) ?_
            refine lv_iadd hx hb dX1_clearCross_40 ?_
            refine lv_istore (lv' := [(4, .int (p0 + 1)), (3, .int x925), (2, .int y2_2), (0, .ref (a 3)), (1, .int p0)]) hx hb dX1_clearCross_41 hl (by decide) rfl (fun ls hl => ?_)
            have lp43 : ∀ (nn : Nat) (y4_43 : Int32) (q_43 : Nat → Int32) (f_43 : Nat → Nat → Int64) (H : Heap) (locs : List Loc), q_43 4 = q 4 → gap (r (2 * 8)) y4_43 < nn → Bd κ A s (cw κ a r q_43 f_43) H locs → ∀ ls : Array Slot, lv_has ls 5 [(4, .int y4_43), (3, .int x925), (2, .int y2_2), (0, .ref (a 3)), (1, .int p0)] → W p l e (Rm 3 75 0 0) s m args below meth c H locs 0 0 Q (F0 m 43 ls []) := by
              intro nn
              induction nn with
              | zero => intro y4_43 q_43 f_43 H locs hwq_43 hμ; exact absurd hμ (Nat.not_lt_zero _)
              | succ nn ih43 =>
                intro y4_43 q_43 f_43 H locs hwq_43 hμ43 hB ls hl
                refine lv_iload hx hb dX1_clearCross_43 (lv_at hl 0 rfl) ?_
                refine lv_aload_n hx hb dX1_clearCross_45 rfl (lv_at hl 3 rfl) ?_
                refine gf hX hB cw3 rfl in1 0 (by decide) wm_1_95 rfl rfl dX1_clearCross_46 ?_
                refine gfN hX hB (cwG (i := 8) (by decide)) rfl in3 1 (by decide) wn_1_49 rfl rfl dX1_clearCross_49 ?_
                refine lv_icmp_ge (tgt := 98) hx hb dX1_clearCross_52 (by decide) (fun c1232 => ?_) (fun c1232 => ?_)
                · refine lv_iload_n hx hb dX1_clearCross_98 rfl (lv_at hl 4 rfl) ?_
                  refine lv_iconst (v := 1) hx hb dX1_clearCross_99 (by decide) ?_
                  refine lv_iadd hx hb dX1_clearCross_100 ?_
                  refine lv_istore (lv' := [(4, .int (p0 + 1)), (3, .int x925), (2, .int y2_2), (0, .ref (a 3)), (1, .int p0)]) hx hb dX1_clearCross_101 hl (by decide) rfl (fun ls hl => ?_)
                  have lp103 : ∀ (nn : Nat) (y4_103 : Int32) (q_103 : Nat → Int32) (f_103 : Nat → Nat → Int64) (H : Heap) (locs : List Loc), q_103 4 = q 4 → gap (r (2 * 8 + 1)) y4_103 < nn → Bd κ A s (cw κ a r q_103 f_103) H locs → ∀ ls : Array Slot, lv_has ls 5 [(4, .int y4_103), (3, .int x925), (2, .int y2_2), (0, .ref (a 3)), (1, .int p0)] → W p l e (Rm 3 75 0 0) s m args below meth c H locs 0 0 Q (F0 m 103 ls []) := by
                    intro nn
                    induction nn with
                    | zero => intro y4_103 q_103 f_103 H locs hwq_103 hμ; exact absurd hμ (Nat.not_lt_zero _)
                    | succ nn ih103 =>
                      intro y4_103 q_103 f_103 H locs hwq_103 hμ103 hB ls hl
                      refine lv_iload hx hb dX1_clearCross_103 (lv_at hl 0 rfl) ?_
                      refine lv_aload_n hx hb dX1_clearCross_105 rfl (lv_at hl 3 rfl) ?_
                      refine gf hX hB cw3 rfl in1 0 (by decide) wm_1_95 rfl rfl dX1_clearCross_106 ?_
                      refine gfN hX hB (cwG (i := 8) (by decide)) rfl in3 2 (by decide) wn_1_54 rfl rfl dX1_clearCross_109 ?_
                      have jn158 : ∀ (H : Heap) (locs : List Loc), Bd κ A s (cw κ a r q_103 f_103) H locs → ∀ ls : Array Slot, lv_has ls 5 [(4, .int y4_103), (3, .int x925), (2, .int y2_2), (0, .ref (a 3)), (1, .int p0)] → W p l e (Rm 3 75 0 0) s m args below meth c H locs 0 0 Q (F0 m 158 ls []) := by
                        intro H locs hB ls hl
                        refine lv_aload_n hx hb dX1_clearCross_158 rfl (lv_at hl 3 rfl) ?_
                        refine gf hX hB cw3 rfl in1 3 (by decide) wm_1_104 rfl rfl dX1_clearCross_159 ?_
                        refine lv_if_ne (tgt := 195) hx hb dX1_clearCross_162 (by decide) (fun c1289 => ?_) (fun c1289 => ?_)
                        · refine lv_iinc (v := y2_2 + 1) (lv' := [(2, .int (y2_2 + 1)), (4, .int y4_103), (3, .int x925), (0, .ref (a 3)), (1, .int p0)]) hx hb dX1_clearCross_195 hl (k := 2) rfl rfl (by decide) rfl (fun ls hl => ?_)
                          refine lv_goto (tgt := 2) hx hb dX1_clearCross_198 (by decide) ?_
                          exact ih2 (y2_2 + 1) q_103 f_103 _ _ hwq_103 (gap_step c923 hμ2) hB _ (lv_sub hl [0, 3, 4] rfl)
                        · refine lv_aload_n hx hb dX1_clearCross_165 rfl (lv_at hl 3 rfl) ?_
                          refine lv_iload_n hx hb dX1_clearCross_166 rfl (lv_at hl 4 rfl) ?_
                          refine call_V (n := 1) (As := [.int p0]) (rest := []) hX hB (k_X1_isCrossClear κ l a r q_103 f_103 p0) ⟨rfl, by decide, by decide, by decide +kernel⟩ wm_2_107 wm_2_109 wp_12 wm_1_4 wm_2_110 ⟨Nat.le_of_ble_eq_true rfl, Nat.le_of_ble_eq_true rfl⟩ ⟨Nat.le_of_ble_eq_true rfl, Nat.le_of_ble_eq_true rfl⟩ cw3 rfl rfl rfl hl.1 rfl (Nat.le_of_ble_eq_true rfl) dX1_clearCross_167 (fun o w' H locs hp hB => ?_)
                          obtain ⟨x1290, rfl, bx1290, rfl⟩ := hp
                          refine W.eq (g2 := F0 m 170 ls [.int x1290]) rfl ?_
                          refine lv_if_eq (tgt := 195) hx hb dX1_clearCross_170 (by decide) (fun c1291 => ?_) (fun c1291 => ?_)
                          · refine lv_iinc (v := y2_2 + 1) (lv' := [(2, .int (y2_2 + 1)), (4, .int y4_103), (3, .int x925), (0, .ref (a 3)), (1, .int p0)]) hx hb dX1_clearCross_195 hl (k := 2) rfl rfl (by decide) rfl (fun ls hl => ?_)
                            refine lv_goto (tgt := 2) hx hb dX1_clearCross_198 (by decide) ?_
                            exact ih2 (y2_2 + 1) q_103 f_103 _ _ hwq_103 (gap_step c923 hμ2) hB _ (lv_sub hl [0, 3, 4] rfl)
                          · refine lv_aload_n hx hb dX1_clearCross_173 rfl (lv_at hl 3 rfl) ?_
                            refine lv_iload_n hx hb dX1_clearCross_174 rfl (lv_at hl 4 rfl) ?_
                            refine call_V (n := 1) (As := [.int p0]) (rest := []) hX hB (k_X1_findUndividedRow κ l a r q_103 f_103 p0) ⟨rfl, by decide, by decide, by decide +kernel⟩ wm_2_111 wm_2_113 wp_13 wm_1_4 wm_2_114 ⟨Nat.le_of_ble_eq_true rfl, Nat.le_of_ble_eq_true rfl⟩ ⟨Nat.le_of_ble_eq_true rfl, Nat.le_of_ble_eq_true rfl⟩ cw3 rfl rfl rfl hl.1 rfl (Nat.le_of_ble_eq_true rfl) dX1_clearCross_175 (fun o w' H locs hp hB => ?_)
                            obtain ⟨x1292, rfl, rfl⟩ := hp
                            refine W.eq (g2 := F0 m 178 ls [.int x1292]) rfl ?_
                            refine lv_istore (lv' := [(4, .int x1292), (3, .int x925), (2, .int y2_2), (0, .ref (a 3)), (1, .int p0)]) hx hb dX1_clearCross_178 hl (by decide) rfl (fun ls hl => ?_)
                            refine lv_iload hx hb dX1_clearCross_180 (lv_at hl 0 rfl) ?_
                            refine lv_if_ge (tgt := 187) hx hb dX1_clearCross_182 (by decide) (fun c1293 => ?_) (fun c1293 => ?_)
                            · refine lv_aload_n hx hb dX1_clearCross_187 rfl (lv_at hl 3 rfl) ?_
                              refine lv_iload_n hx hb dX1_clearCross_188 rfl (lv_at hl 4 rfl) ?_
                              refine lv_iload hx hb dX1_clearCross_189 (lv_at hl 0 rfl) ?_
                              refine lv_lconst (v := 1) hx hb dX1_clearCross_191 (by decide) ?_
                              refine call_V (n := 3) (As := [.int p0, .int x1292, .long 1]) (rest := []) hX hB (k_X1_addRow κ l a r q_103 f_103 p0 x1292 1) ⟨rfl, by decide, by decide, by decide +kernel⟩ wm_2_96 wm_2_98 wp_10 wm_1_4 wm_2_99 ⟨Nat.le_of_ble_eq_true rfl, Nat.le_of_ble_eq_true rfl⟩ ⟨Nat.le_of_ble_eq_true rfl, Nat.le_of_ble_eq_true rfl⟩ cw3 rfl rfl rfl hl.1 rfl (Nat.le_of_ble_eq_true rfl) dX1_clearCross_192 (fun o w' H locs hp hB => ?_)
                              obtain ⟨q1294, f1296, rfl, hq1295, rfl⟩ := hp
                              refine W.eq (g2 := F0 m 195 ls []) rfl ?_
                              refine lv_iinc (v := y2_2 + 1) (lv' := [(2, .int (y2_2 + 1)), (4, .int x1292), (3, .int x925), (0, .ref (a 3)), (1, .int p0)]) hx hb dX1_clearCross_195 hl (k := 2) rfl rfl (by decide) rfl (fun ls hl => ?_)
                              refine lv_goto (tgt := 2) hx hb dX1_clearCross_198 (by decide) ?_
                              exact ih2 (y2_2 + 1) q1294 f1296 _ _ (hq1295.trans hwq_103) (gap_step c923 hμ2) hB _ (lv_sub hl [0, 3, 4] rfl)
                            · refine lv_iconst (v := 1) hx hb dX1_clearCross_185 (by decide) ?_
                              rw [← hQ]
                              exact end_i hX hB hA3 rfl rfl ⟨1, q_103, f_103, rfl, Or.inr rfl, hwq_103, rfl⟩ (Nat.le_of_ble_eq_true rfl) (Nat.le_of_ble_eq_true rfl) dX1_clearCross_186
                      refine lv_icmp_ge (tgt := 158) hx hb dX1_clearCross_112 (by decide) (fun c1297 => ?_) (fun c1297 => ?_)
                      · exact jn158  _ _  hB _ hl
                      · refine lv_aload_n hx hb dX1_clearCross_115 rfl (lv_at hl 3 rfl) ?_
                        refine gf hX hB cw3 rfl in1 3 (by decide) wm_1_104 rfl rfl dX1_clearCross_116 ?_
                        refine lv_if_ne (tgt := 158) hx hb dX1_clearCross_119 (by decide) (fun c1298 => ?_) (fun c1298 => ?_)
                        · exact jn158  _ _  hB _ hl
                        · refine lv_aload_n hx hb dX1_clearCross_122 rfl (lv_at hl 3 rfl) ?_
                          refine lv_iload hx hb dX1_clearCross_123 (lv_at hl 0 rfl) ?_
                          refine lv_iload_n hx hb dX1_clearCross_125 rfl (lv_at hl 4 rfl) ?_
                          refine lv_aload_n hx hb dX1_clearCross_126 rfl (lv_at hl 3 rfl) ?_
                          refine gf hX hB cw3 rfl in1 0 (by decide) wm_1_95 rfl rfl dX1_clearCross_127 ?_
                          refine lv_iload_n hx hb dX1_clearCross_130 rfl (lv_at hl 4 rfl) ?_
                          refine lv_iload hx hb dX1_clearCross_131 (lv_at hl 0 rfl) ?_
                          refine call_V (n := 2) (As := [.int p0, .int y4_103]) (rest := [.int p0, .int y4_103, .ref (a 3)]) hX hB (k_X3_get κ l a r q_103 f_103 8 p0 y4_103 (by decide)) ⟨rfl, by decide, by decide, by decide +kernel⟩ wm_2_87 wm_1_187 wm_1_188 wm_1_2 wm_1_189 ⟨Nat.le_of_ble_eq_true rfl, Nat.le_of_ble_eq_true rfl⟩ ⟨Nat.le_of_ble_eq_true rfl, Nat.le_of_ble_eq_true rfl⟩ (cwG (i := 8) (by decide)) rfl rfl rfl hl.1 rfl (Nat.le_of_ble_eq_true rfl) dX1_clearCross_133 (fun o w' H locs hp hB => ?_)
                          obtain ⟨x1299, rfl, rfl⟩ := hp
                          refine W.eq (g2 := F0 m 136 ls [.long x1299, .int p0, .int y4_103, .ref (a 3)]) rfl ?_
                          refine lv_aload_n hx hb dX1_clearCross_136 rfl (lv_at hl 3 rfl) ?_
                          refine gf hX hB cw3 rfl in1 0 (by decide) wm_1_95 rfl rfl dX1_clearCross_137 ?_
                          refine lv_iload_n hx hb dX1_clearCross_140 rfl (lv_at hl 4 rfl) ?_
                          refine lv_iload_n hx hb dX1_clearCross_141 rfl (lv_at hl 4 rfl) ?_
                          refine call_V (n := 2) (As := [.int p0, .int p0]) (rest := [.long x1299, .int p0, .int y4_103, .ref (a 3)]) hX hB (k_X3_get κ l a r q_103 f_103 8 p0 p0 (by decide)) ⟨rfl, by decide, by decide, by decide +kernel⟩ wm_2_87 wm_1_187 wm_1_188 wm_1_2 wm_1_189 ⟨Nat.le_of_ble_eq_true rfl, Nat.le_of_ble_eq_true rfl⟩ ⟨Nat.le_of_ble_eq_true rfl, Nat.le_of_ble_eq_true rfl⟩ (cwG (i := 8) (by decide)) rfl rfl rfl hl.1 rfl (Nat.le_of_ble_eq_true rfl) dX1_clearCross_142 (fun o w' H locs hp hB => ?_)
                          obtain ⟨x1300, rfl, rfl⟩ := hp
                          refine W.eq (g2 := F0 m 145 ls [.long x1300, .long x1299, .int p0, .int y4_103, .ref (a 3)]) rfl ?_
                          refine call_SN (n := 2) (As := [.long x1299, .long x1300]) (rest := [.int p0, .int y4_103, .ref (a 3)]) hX hB (k_X5_divideDown κ l (cw κ a r q_103 f_103) x1299 x1300 ) ⟨by decide, by decide, by decide +kernel⟩ wn_2_95 wm_2_17 wm_1_1 wm_2_18 ⟨Nat.le_of_ble_eq_true rfl, Nat.le_of_ble_eq_true rfl⟩ ⟨Nat.le_of_ble_eq_true rfl, Nat.le_of_ble_eq_true rfl⟩ rfl hl.1 rfl (Nat.le_of_ble_eq_true rfl) dX1_clearCross_145 (fun o w' H locs hp hB => ?_)
                          obtain ⟨x1301, rfl, hw9⟩ := hp
                          rw [hw9] at hB
                          refine W.eq (g2 := F0 m 148 ls [.long x1301, .int p0, .int y4_103, .ref (a 3)]) rfl ?_
                          refine lv_lneg hx hb dX1_clearCross_148 ?_
                          refine call_V (n := 3) (As := [.int y4_103, .int p0, .long (-x1301)]) (rest := []) hX hB (k_X1_addColumn κ l a r q_103 f_103 y4_103 p0 (-x1301)) ⟨rfl, by decide, by decide, by decide +kernel⟩ wm_2_103 wm_2_105 wp_11 wm_1_4 wm_2_106 ⟨Nat.le_of_ble_eq_true rfl, Nat.le_of_ble_eq_true rfl⟩ ⟨Nat.le_of_ble_eq_true rfl, Nat.le_of_ble_eq_true rfl⟩ cw3 rfl rfl rfl hl.1 rfl (Nat.le_of_ble_eq_true rfl) dX1_clearCross_149 (fun o w' H locs hp hB => ?_)
                          obtain ⟨q1302, f1304, rfl, hq1303, rfl⟩ := hp
                          refine W.eq (g2 := F0 m 152 ls []) rfl ?_
                          refine lv_iinc (v := y4_103 + 1) (lv' := [(4, .int (y4_103 + 1)), (3, .int x925), (2, .int y2_2), (0, .ref (a 3)), (1, .int p0)]) hx hb dX1_clearCross_152 hl (k := 0) rfl rfl (by decide) rfl (fun ls hl => ?_)
                          refine lv_goto (tgt := 103) hx hb dX1_clearCross_155 (by decide) ?_
                          exact ih103 (y4_103 + 1) q1302 f1304 _ _ (hq1303.trans hwq_103) (gap_step c1297 hμ103) hB _ hl
                  exact lp103 _ (p0 + 1) q_43 f_43 _ _ hwq_43 (Nat.lt_succ_self _) hB _ hl
                · refine lv_aload_n hx hb dX1_clearCross_55 rfl (lv_at hl 3 rfl) ?_
                  refine gf hX hB cw3 rfl in1 3 (by decide) wm_1_104 rfl rfl dX1_clearCross_56 ?_
                  refine lv_if_ne (tgt := 98) hx hb dX1_clearCross_59 (by decide) (fun c1305 => ?_) (fun c1305 => ?_)
                  · refine lv_iload_n hx hb dX1_clearCross_98 rfl (lv_at hl 4 rfl) ?_
                    refine lv_iconst (v := 1) hx hb dX1_clearCross_99 (by decide) ?_
                    refine lv_iadd hx hb dX1_clearCross_100 ?_
                    refine lv_istore (lv' := [(4, .int (p0 + 1)), (3, .int x925), (2, .int y2_2), (0, .ref (a 3)), (1, .int p0)]) hx hb dX1_clearCross_101 hl (by decide) rfl (fun ls hl => ?_)
                    have lp103 : ∀ (nn : Nat) (y4_103 : Int32) (q_103 : Nat → Int32) (f_103 : Nat → Nat → Int64) (H : Heap) (locs : List Loc), q_103 4 = q 4 → gap (r (2 * 8 + 1)) y4_103 < nn → Bd κ A s (cw κ a r q_103 f_103) H locs → ∀ ls : Array Slot, lv_has ls 5 [(4, .int y4_103), (3, .int x925), (2, .int y2_2), (0, .ref (a 3)), (1, .int p0)] → W p l e (Rm 3 75 0 0) s m args below meth c H locs 0 0 Q (F0 m 103 ls []) := by
                      intro nn
                      induction nn with
                      | zero => intro y4_103 q_103 f_103 H locs hwq_103 hμ; exact absurd hμ (Nat.not_lt_zero _)
                      | succ nn ih103 =>
                        intro y4_103 q_103 f_103 H locs hwq_103 hμ103 hB ls hl
                        refine lv_iload hx hb dX1_clearCross_103 (lv_at hl 0 rfl) ?_
                        refine lv_aload_n hx hb dX1_clearCross_105 rfl (lv_at hl 3 rfl) ?_
                        refine gf hX hB cw3 rfl in1 0 (by decide) wm_1_95 rfl rfl dX1_clearCross_106 ?_
                        refine gfN hX hB (cwG (i := 8) (by decide)) rfl in3 2 (by decide) wn_1_54 rfl rfl dX1_clearCross_109 ?_
                        have jn158 : ∀ (H : Heap) (locs : List Loc), Bd κ A s (cw κ a r q_103 f_103) H locs → ∀ ls : Array Slot, lv_has ls 5 [(4, .int y4_103), (3, .int x925), (2, .int y2_2), (0, .ref (a 3)), (1, .int p0)] → W p l e (Rm 3 75 0 0) s m args below meth c H locs 0 0 Q (F0 m 158 ls []) := by
                          intro H locs hB ls hl
                          refine lv_aload_n hx hb dX1_clearCross_158 rfl (lv_at hl 3 rfl) ?_
                          refine gf hX hB cw3 rfl in1 3 (by decide) wm_1_104 rfl rfl dX1_clearCross_159 ?_
                          refine lv_if_ne (tgt := 195) hx hb dX1_clearCross_162 (by decide) (fun c1362 => ?_) (fun c1362 => ?_)
                          · refine lv_iinc (v := y2_2 + 1) (lv' := [(2, .int (y2_2 + 1)), (4, .int y4_103), (3, .int x925), (0, .ref (a 3)), (1, .int p0)]) hx hb dX1_clearCross_195 hl (k := 2) rfl rfl (by decide) rfl (fun ls hl => ?_)
                            refine lv_goto (tgt := 2) hx hb dX1_clearCross_198 (by decide) ?_
                            exact ih2 (y2_2 + 1) q_103 f_103 _ _ hwq_103 (gap_step c923 hμ2) hB _ (lv_sub hl [0, 3, 4] rfl)
                          · refine lv_aload_n hx hb dX1_clearCross_165 rfl (lv_at hl 3 rfl) ?_
                            refine lv_iload_n hx hb dX1_clearCross_166 rfl (lv_at hl 4 rfl) ?_
                            refine call_V (n := 1) (As := [.int p0]) (rest := []) hX hB (k_X1_isCrossClear κ l a r q_103 f_103 p0) ⟨rfl, by decide, by decide, by decide +kernel⟩ wm_2_107 wm_2_109 wp_12 wm_1_4 wm_2_110 ⟨Nat.le_of_ble_eq_true rfl, Nat.le_of_ble_eq_true rfl⟩ ⟨Nat.le_of_ble_eq_true rfl, Nat.le_of_ble_eq_true rfl⟩ cw3 rfl rfl rfl hl.1 rfl (Nat.le_of_ble_eq_true rfl) dX1_clearCross_167 (fun o w' H locs hp hB => ?_)
                            obtain ⟨x1363, rfl, bx1363, rfl⟩ := hp
                            refine W.eq (g2 := F0 m 170 ls [.int x1363]) rfl ?_
                            refine lv_if_eq (tgt := 195) hx hb dX1_clearCross_170 (by decide) (fun c1364 => ?_) (fun c1364 => ?_)
                            · refine lv_iinc (v := y2_2 + 1) (lv' := [(2, .int (y2_2 + 1)), (4, .int y4_103), (3, .int x925), (0, .ref (a 3)), (1, .int p0)]) hx hb dX1_clearCross_195 hl (k := 2) rfl rfl (by decide) rfl (fun ls hl => ?_)
                              refine lv_goto (tgt := 2) hx hb dX1_clearCross_198 (by decide) ?_
                              exact ih2 (y2_2 + 1) q_103 f_103 _ _ hwq_103 (gap_step c923 hμ2) hB _ (lv_sub hl [0, 3, 4] rfl)
                            · refine lv_aload_n hx hb dX1_clearCross_173 rfl (lv_at hl 3 rfl) ?_
                              refine lv_iload_n hx hb dX1_clearCross_174 rfl (lv_at hl 4 rfl) ?_
                              refine call_V (n := 1) (As := [.int p0]) (rest := []) hX hB (k_X1_findUndividedRow κ l a r q_103 f_103 p0) ⟨rfl, by decide, by decide, by decide +kernel⟩ wm_2_111 wm_2_113 wp_13 wm_1_4 wm_2_114 ⟨Nat.le_of_ble_eq_true rfl, Nat.le_of_ble_eq_true rfl⟩ ⟨Nat.le_of_ble_eq_true rfl, Nat.le_of_ble_eq_true rfl⟩ cw3 rfl rfl rfl hl.1 rfl (Nat.le_of_ble_eq_true rfl) dX1_clearCross_175 (fun o w' H locs hp hB => ?_)
                              obtain ⟨x1365, rfl, rfl⟩ := hp
                              refine W.eq (g2 := F0 m 178 ls [.int x1365]) rfl ?_
                              refine lv_istore (lv' := [(4, .int x1365), (3, .int x925), (2, .int y2_2), (0, .ref (a 3)), (1, .int p0)]) hx hb dX1_clearCross_178 hl (by decide) rfl (fun ls hl => ?_)
                              refine lv_iload hx hb dX1_clearCross_180 (lv_at hl 0 rfl) ?_
                              refine lv_if_ge (tgt := 187) hx hb dX1_clearCross_182 (by decide) (fun c1366 => ?_) (fun c1366 => ?_)
                              · refine lv_aload_n hx hb dX1_clearCross_187 rfl (lv_at hl 3 rfl) ?_
                                refine lv_iload_n hx hb dX1_clearCross_188 rfl (lv_at hl 4 rfl) ?_
                                refine lv_iload hx hb dX1_clearCross_189 (lv_at hl 0 rfl) ?_
                                refine lv_lconst (v := 1) hx hb dX1_clearCross_191 (by decide) ?_
                                refine call_V (n := 3) (As := [.int p0, .int x1365, .long 1]) (rest := []) hX hB (k_X1_addRow κ l a r q_103 f_103 p0 x1365 1) ⟨rfl, by decide, by decide, by decide +kernel⟩ wm_2_96 wm_2_98 wp_10 wm_1_4 wm_2_99 ⟨Nat.le_of_ble_eq_true rfl, Nat.le_of_ble_eq_true rfl⟩ ⟨Nat.le_of_ble_eq_true rfl, Nat.le_of_ble_eq_true rfl⟩ cw3 rfl rfl rfl hl.1 rfl (Nat.le_of_ble_eq_true rfl) dX1_clearCross_192 (fun o w' H locs hp hB => ?_)
                                obtain ⟨q1367, f1369, rfl, hq1368, rfl⟩ := hp
                                refine W.eq (g2 := F0 m 195 ls []) rfl ?_
                                refine lv_iinc (v := y2_2 + 1) (lv' := [(2, .int (y2_2 + 1)), (4, .int x1365), (3, .int x925), (0, .ref (a 3)), (1, .int p0)]) hx hb dX1_clearCross_195 hl (k := 2) rfl rfl (by decide) rfl (fun ls hl => ?_)
                                refine lv_goto (tgt := 2) hx hb dX1_clearCross_198 (by decide) ?_
                                exact ih2 (y2_2 + 1) q1367 f1369 _ _ (hq1368.trans hwq_103) (gap_step c923 hμ2) hB _ (lv_sub hl [0, 3, 4] rfl)
                              · refine lv_iconst (v := 1) hx hb dX1_clearCross_185 (by decide) ?_
                                rw [← hQ]
                                exact end_i hX hB hA3 rfl rfl ⟨1, q_103, f_103, rfl, Or.inr rfl, hwq_103, rfl⟩ (Nat.le_of_ble_eq_true rfl) (Nat.le_of_ble_eq_true rfl) dX1_clearCross_186
                        refine lv_icmp_ge (tgt := 158) hx hb dX1_clearCross_112 (by decide) (fun c1370 => ?_) (fun c1370 => ?_)
                        · exact jn158  _ _  hB _ hl
                        · refine lv_aload_n hx hb dX1_clearCross_115 rfl (lv_at hl 3 rfl) ?_
                          refine gf hX hB cw3 rfl in1 3 (by decide) wm_1_104 rfl rfl dX1_clearCross_116 ?_
                          refine lv_if_ne (tgt := 158) hx hb dX1_clearCross_119 (by decide) (fun c1371 => ?_) (fun c1371 => ?_)
                          · exact jn158  _ _  hB _ hl
                          · refine lv_aload_n hx hb dX1_clearCross_122 rfl (lv_at hl 3 rfl) ?_
                            refine lv_iload hx hb dX1_clearCross_123 (lv_at hl 0 rfl) ?_
                            refine lv_iload_n hx hb dX1_clearCross_125 rfl (lv_at hl 4 rfl) ?_
                            refine lv_aload_n hx hb dX1_clearCross_126 rfl (lv_at hl 3 rfl) ?_
                            refine gf hX hB cw3 rfl in1 0 (by decide) wm_1_95 rfl rfl dX1_clearCross_127 ?_
                            refine lv_iload_n hx hb dX1_clearCross_130 rfl (lv_at hl 4 rfl) ?_
                            refine lv_iload hx hb dX1_clearCross_131 (lv_at hl 0 rfl) ?_
                            refine call_V (n := 2) (As := [.int p0, .int y4_103]) (rest := [.int p0, .int y4_103, .ref (a 3)]) hX hB (k_X3_get κ l a r q_103 f_103 8 p0 y4_103 (by decide)) ⟨rfl, by decide, by decide, by decide +kernel⟩ wm_2_87 wm_1_187 wm_1_188 wm_1_2 wm_1_189 ⟨Nat.le_of_ble_eq_true rfl, Nat.le_of_ble_eq_true rfl⟩ ⟨Nat.le_of_ble_eq_true rfl, Nat.le_of_ble_eq_true rfl⟩ (cwG (i := 8) (by decide)) rfl rfl rfl hl.1 rfl (Nat.le_of_ble_eq_true rfl) dX1_clearCross_133 (fun o w' H locs hp hB => ?_)
                            obtain ⟨x1372, rfl, rfl⟩ := hp
                            refine W.eq (g2 := F0 m 136 ls [.long x1372, .int p0, .int y4_103, .ref (a 3)]) rfl ?_
                            refine lv_aload_n hx hb dX1_clearCross_136 rfl (lv_at hl 3 rfl) ?_
                            refine gf hX hB cw3 rfl in1 0 (by decide) wm_1_95 rfl rfl dX1_clearCross_137 ?_
                            refine lv_iload_n hx hb dX1_clearCross_140 rfl (lv_at hl 4 rfl) ?_
                            refine lv_iload_n hx hb dX1_clearCross_141 rfl (lv_at hl 4 rfl) ?_
                            refine call_V (n := 2) (As := [.int p0, .int p0]) (rest := [.long x1372, .int p0, .int y4_103, .ref (a 3)]) hX hB (k_X3_get κ l a r q_103 f_103 8 p0 p0 (by decide)) ⟨rfl, by decide, by decide, by decide +kernel⟩ wm_2_87 wm_1_187 wm_1_188 wm_1_2 wm_1_189 ⟨Nat.le_of_ble_eq_true rfl, Nat.le_of_ble_eq_true rfl⟩ ⟨Nat.le_of_ble_eq_true rfl, Nat.le_of_ble_eq_true rfl⟩ (cwG (i := 8) (by decide)) rfl rfl rfl hl.1 rfl (Nat.le_of_ble_eq_true rfl) dX1_clearCross_142 (fun o w' H locs hp hB => ?_)
                            obtain ⟨x1373, rfl, rfl⟩ := hp
                            refine W.eq (g2 := F0 m 145 ls [.long x1373, .long x1372, .int p0, .int y4_103, .ref (a 3)]) rfl ?_
                            refine call_SN (n := 2) (As := [.long x1372, .long x1373]) (rest := [.int p0, .int y4_103, .ref (a 3)]) hX hB (k_X5_divideDown κ l (cw κ a r q_103 f_103) x1372 x1373 ) ⟨by decide, by decide, by decide +kernel⟩ wn_2_95 wm_2_17 wm_1_1 wm_2_18 ⟨Nat.le_of_ble_eq_true rfl, Nat.le_of_ble_eq_true rfl⟩ ⟨Nat.le_of_ble_eq_true rfl, Nat.le_of_ble_eq_true rfl⟩ rfl hl.1 rfl (Nat.le_of_ble_eq_true rfl) dX1_clearCross_145 (fun o w' H locs hp hB => ?_)
                            obtain ⟨x1374, rfl, hw9⟩ := hp
                            rw [hw9] at hB
                            refine W.eq (g2 := F0 m 148 ls [.long x1374, .int p0, .int y4_103, .ref (a 3)]) rfl ?_
                            refine lv_lneg hx hb dX1_clearCross_148 ?_
                            refine call_V (n := 3) (As := [.int y4_103, .int p0, .long (-x1374)]) (rest := []) hX hB (k_X1_addColumn κ l a r q_103 f_103 y4_103 p0 (-x1374)) ⟨rfl, by decide, by decide, by decide +kernel⟩ wm_2_103 wm_2_105 wp_11 wm_1_4 wm_2_106 ⟨Nat.le_of_ble_eq_true rfl, Nat.le_of_ble_eq_true rfl⟩ ⟨Nat.le_of_ble_eq_true rfl, Nat.le_of_ble_eq_true rfl⟩ cw3 rfl rfl rfl hl.1 rfl (Nat.le_of_ble_eq_true rfl) dX1_clearCross_149 (fun o w' H locs hp hB => ?_)
                            obtain ⟨q1375, f1377, rfl, hq1376, rfl⟩ := hp
                            refine W.eq (g2 := F0 m 152 ls []) rfl ?_
                            refine lv_iinc (v := y4_103 + 1) (lv' := [(4, .int (y4_103 + 1)), (3, .int x925), (2, .int y2_2), (0, .ref (a 3)), (1, .int p0)]) hx hb dX1_clearCross_152 hl (k := 0) rfl rfl (by decide) rfl (fun ls hl => ?_)
                            refine lv_goto (tgt := 103) hx hb dX1_clearCross_155 (by decide) ?_
                            exact ih103 (y4_103 + 1) q1375 f1377 _ _ (hq1376.trans hwq_103) (gap_step c1370 hμ103) hB _ hl
                    exact lp103 _ (p0 + 1) q_43 f_43 _ _ hwq_43 (Nat.lt_succ_self _) hB _ hl
                  · refine lv_aload_n hx hb dX1_clearCross_62 rfl (lv_at hl 3 rfl) ?_
                    refine lv_iload hx hb dX1_clearCross_63 (lv_at hl 0 rfl) ?_
                    refine lv_iload_n hx hb dX1_clearCross_65 rfl (lv_at hl 4 rfl) ?_
                    refine lv_aload_n hx hb dX1_clearCross_66 rfl (lv_at hl 3 rfl) ?_
                    refine gf hX hB cw3 rfl in1 0 (by decide) wm_1_95 rfl rfl dX1_clearCross_67 ?_
                    refine lv_iload hx hb dX1_clearCross_70 (lv_at hl 0 rfl) ?_
                    refine lv_iload_n hx hb dX1_clearCross_72 rfl (lv_at hl 4 rfl) ?_
                    refine call_V (n := 2) (As := [.int y4_43, .int p0]) (rest := [.int p0, .int y4_43, .ref (a 3)]) hX hB (k_X3_get κ l a r q_43 f_43 8 y4_43 p0 (by decide)) ⟨rfl, by decide, by decide, by decide +kernel⟩ wm_2_87 wm_1_187 wm_1_188 wm_1_2 wm_1_189 ⟨Nat.le_of_ble_eq_true rfl, Nat.le_of_ble_eq_true rfl⟩ ⟨Nat.le_of_ble_eq_true rfl, Nat.le_of_ble_eq_true rfl⟩ (cwG (i := 8) (by decide)) rfl rfl rfl hl.1 rfl (Nat.le_of_ble_eq_true rfl) dX1_clearCross_73 (fun o w' H locs hp hB => ?_)
                    obtain ⟨x1378, rfl, rfl⟩ := hp
                    refine W.eq (g2 := F0 m 76 ls [.long x1378, .int p0, .int y4_43, .ref (a 3)]) rfl ?_
                    refine lv_aload_n hx hb dX1_clearCross_76 rfl (lv_at hl 3 rfl) ?_
                    refine gf hX hB cw3 rfl in1 0 (by decide) wm_1_95 rfl rfl dX1_clearCross_77 ?_
                    refine lv_iload_n hx hb dX1_clearCross_80 rfl (lv_at hl 4 rfl) ?_
                    refine lv_iload_n hx hb dX1_clearCross_81 rfl (lv_at hl 4 rfl) ?_
                    refine call_V (n := 2) (As := [.int p0, .int p0]) (rest := [.long x1378, .int p0, .int y4_43, .ref (a 3)]) hX hB (k_X3_get κ l a r q_43 f_43 8 p0 p0 (by decide)) ⟨rfl, by decide, by decide, by decide +kernel⟩ wm_2_87 wm_1_187 wm_1_188 wm_1_2 wm_1_189 ⟨Nat.le_of_ble_eq_true rfl, Nat.le_of_ble_eq_true rfl⟩ ⟨Nat.le_of_ble_eq_true rfl, Nat.le_of_ble_eq_true rfl⟩ (cwG (i := 8) (by decide)) rfl rfl rfl hl.1 rfl (Nat.le_of_ble_eq_true rfl) dX1_clearCross_82 (fun o w' H locs hp hB => ?_)
                    obtain ⟨x1379, rfl, rfl⟩ := hp
                    refine W.eq (g2 := F0 m 85 ls [.long x1379, .long x1378, .int p0, .int y4_43, .ref (a 3)]) rfl ?_
                    refine call_SN (n := 2) (As := [.long x1378, .long x1379]) (rest := [.int p0, .int y4_43, .ref (a 3)]) hX hB (k_X5_divideDown κ l (cw κ a r q_43 f_43) x1378 x1379 ) ⟨by decide, by decide, by decide +kernel⟩ wn_2_95 wm_2_17 wm_1_1 wm_2_18 ⟨Nat.le_of_ble_eq_true rfl, Nat.le_of_ble_eq_true rfl⟩ ⟨Nat.le_of_ble_eq_true rfl, Nat.le_of_ble_eq_true rfl⟩ rfl hl.1 rfl (Nat.le_of_ble_eq_true rfl) dX1_clearCross_85 (fun o w' H locs hp hB => ?_)
                    obtain ⟨x1380, rfl, hw9⟩ := hp
                    rw [hw9] at hB
                    refine W.eq (g2 := F0 m 88 ls [.long x1380, .int p0, .int y4_43, .ref (a 3)]) rfl ?_
                    refine lv_lneg hx hb dX1_clearCross_88 ?_
                    refine call_V (n := 3) (As := [.int y4_43, .int p0, .long (-x1380)]) (rest := []) hX hB (k_X1_addRow κ l a r q_43 f_43 y4_43 p0 (-x1380)) ⟨rfl, by decide, by decide, by decide +kernel⟩ wm_2_96 wm_2_98 wp_10 wm_1_4 wm_2_99 ⟨Nat.le_of_ble_eq_true rfl, Nat.le_of_ble_eq_true rfl⟩ ⟨Nat.le_of_ble_eq_true rfl, Nat.le_of_ble_eq_true rfl⟩ cw3 rfl rfl rfl hl.1 rfl (Nat.le_of_ble_eq_true rfl) dX1_clearCross_89 (fun o w' H locs hp hB => ?_)
                    obtain ⟨q1381, f1383, rfl, hq1382, rfl⟩ := hp
                    refine W.eq (g2 := F0 m 92 ls []) rfl ?_
                    refine lv_iinc (v := y4_43 + 1) (lv' := [(4, .int (y4_43 + 1)), (3, .int x925), (2, .int y2_2), (0, .ref (a 3)), (1, .int p0)]) hx hb dX1_clearCross_92 hl (k := 0) rfl rfl (by decide) rfl (fun ls hl => ?_)
                    refine lv_goto (tgt := 43) hx hb dX1_clearCross_95 (by decide) ?_
                    exact ih43 (y4_43 + 1) q1381 f1383 _ _ (hq1382.trans hwq_43) (gap_step c1232 hμ43) hB _ hl
            exact lp43 _ (p0 + 1) q_2 f927 _ _ hwq_2 (Nat.lt_succ_self _) hB _ hl
          · refine lv_iconst (v := 0) hx hb dX1_clearCross_25 (by decide) ?_
            rw [← hQ]
            exact end_i hX hB hA3 rfl rfl ⟨0, q_2, f_2, rfl, Or.inl rfl, hwq_2, rfl⟩ (Nat.le_of_ble_eq_true rfl) (Nat.le_of_ble_eq_true rfl) dX1_clearCross_26
  exact lp2 _ 0 q f _ _ rfl (Nat.lt_succ_self _) hB _ hl
set_option maxHeartbeats 4000000 in
set_option maxRecDepth 100000 in
theorem k_X1_walk (κ : Kt) (l : Launch) (a : Nat → Nat) (r q : Nat → Int32) (f : Nat → Nat → Int64) (i : Nat) (hi : i < 15) : CM κ l yX1_walk cX1_walk 4 (none) 4 99 0 0 [.ref (a 3), .ref (a (6 + 2 * i))] (cw κ a r q f) (fun o w' => ∃ (r' q' : Nat → Int32) (f' : Nat → Nat → Int64), o = none ∧ (okr r → okr r') ∧ q' 4 = q 4 ∧ w' = cw κ a r' q' f') := by
  refine CM_begin (plainFor_of_name (by decide)) (Nat.le_of_ble_eq_true rfl) ?_
  intro p e s m args below meth c A Q hX hnm hA3 hQ hB ls hl
  have hx := hX.1.1
  have hb := hX.1.2.1
  have hl : lv_has ls 4 [(0, .ref (a 3)), (1, .ref (a (6 + 2 * i)))] := hl
  refine lv_aload_n hx hb dX1_walk_0 rfl (lv_at hl 0 rfl) ?_
  refine gf hX hB cw3 rfl in1 0 (by decide) wm_1_95 rfl rfl dX1_walk_1 ?_
  refine lv_aload_n hx hb dX1_walk_4 rfl (lv_at hl 1 rfl) ?_
  refine call_V (n := 1) (As := [.ref (a (6 + 2 * i))]) (rest := []) hX hB (k_X3_becomeLike κ l a r q f 8 i (by decide) hi) ⟨rfl, by decide, by decide, by decide +kernel⟩ wm_2_76 wm_1_205 wm_1_206 wm_1_2 wm_1_207 ⟨Nat.le_of_ble_eq_true rfl, Nat.le_of_ble_eq_true rfl⟩ ⟨Nat.le_of_ble_eq_true rfl, Nat.le_of_ble_eq_true rfl⟩ (cwG (i := 8) (by decide)) rfl rfl rfl hl.1 rfl (Nat.le_of_ble_eq_true rfl) dX1_walk_5 (fun o w' H locs hp hB => ?_)
  obtain ⟨r1, q3, f5, rfl, ho2, hq4, rfl⟩ := hp
  refine W.eq (g2 := F0 m 8 ls []) rfl ?_
  refine lv_aload_n hx hb dX1_walk_8 rfl (lv_at hl 0 rfl) ?_
  refine gf hX hB cw3 rfl in1 1 (by decide) wm_1_98 rfl rfl dX1_walk_9 ?_
  refine lv_aload_n hx hb dX1_walk_12 rfl (lv_at hl 1 rfl) ?_
  refine gfN hX hB (cwG (i := i) hi) rfl in3 1 (by decide) wn_1_49 rfl rfl dX1_walk_13 ?_
  refine call_V (n := 1) (As := [.int (r1 (2 * i))]) (rest := []) hX hB (k_X3_becomeUnit κ l a r1 q3 f5 9 (r1 (2 * i)) (by decide)) ⟨rfl, by decide, by decide, by decide +kernel⟩ wm_2_77 wm_1_209 wm_1_210 wm_1_2 wm_1_211 ⟨Nat.le_of_ble_eq_true rfl, Nat.le_of_ble_eq_true rfl⟩ ⟨Nat.le_of_ble_eq_true rfl, Nat.le_of_ble_eq_true rfl⟩ (cwG (i := 9) (by decide)) rfl rfl rfl hl.1 rfl (Nat.le_of_ble_eq_true rfl) dX1_walk_16 (fun o w' H locs hp hB => ?_)
  obtain ⟨r6, q8, f10, rfl, ho7, hq9, rfl⟩ := hp
  refine W.eq (g2 := F0 m 19 ls []) rfl ?_
  refine lv_aload_n hx hb dX1_walk_19 rfl (lv_at hl 0 rfl) ?_
  refine gf hX hB cw3 rfl in1 2 (by decide) wm_1_101 rfl rfl dX1_walk_20 ?_
  refine lv_aload_n hx hb dX1_walk_23 rfl (lv_at hl 1 rfl) ?_
  refine gfN hX hB (cwG (i := i) hi) rfl in3 2 (by decide) wn_1_54 rfl rfl dX1_walk_24 ?_
  refine call_V (n := 1) (As := [.int (r6 (2 * i + 1))]) (rest := []) hX hB (k_X3_becomeUnit κ l a r6 q8 f10 10 (r6 (2 * i + 1)) (by decide)) ⟨rfl, by decide, by decide, by decide +kernel⟩ wm_2_77 wm_1_209 wm_1_210 wm_1_2 wm_1_211 ⟨Nat.le_of_ble_eq_true rfl, Nat.le_of_ble_eq_true rfl⟩ ⟨Nat.le_of_ble_eq_true rfl, Nat.le_of_ble_eq_true rfl⟩ (cwG (i := 10) (by decide)) rfl rfl rfl hl.1 rfl (Nat.le_of_ble_eq_true rfl) dX1_walk_27 (fun o w' H locs hp hB => ?_)
  obtain ⟨r11, q13, f15, rfl, ho12, hq14, rfl⟩ := hp
  refine W.eq (g2 := F0 m 30 ls []) rfl ?_
  refine lv_aload_n hx hb dX1_walk_30 rfl (lv_at hl 0 rfl) ?_
  refine lv_iconst (v := 0) hx hb dX1_walk_31 (by decide) ?_
  refine pf (ty := .boolean) hX hB cw3 rfl in1 tyX1_ok nmX1 3 (by decide) wm_1_104 rfl rfl rfl rfl rfl (Nat.le_of_ble_eq_true rfl) (cwSQ1 _) dX1_walk_32 (fun H locs hB => ?_)
  refine lv_iconst (v := 1) hx hb dX1_walk_35 (by decide) ?_
  refine lv_istore_n (lv' := [(2, .int 1), (0, .ref (a 3)), (1, .ref (a (6 + 2 * i)))]) hx hb dX1_walk_36 rfl hl (by decide) rfl (fun ls hl => ?_)
  refine lv_iconst (v := 0) hx hb dX1_walk_37 (by decide) ?_
  refine lv_istore_n (lv' := [(3, .int 0), (2, .int 1), (0, .ref (a 3)), (1, .ref (a (6 + 2 * i)))]) hx hb dX1_walk_38 rfl hl (by decide) rfl (fun ls hl => ?_)
  have lp39 : ∀ (nn : Nat) (y3_39 : Int32) (y2_39 : Int32) (q_39 : Nat → Int32) (f_39 : Nat → Nat → Int64) (H : Heap) (locs : List Loc), q_39 4 = q 4 → gap (r11 (2 * 8)) y3_39 < nn → Bd κ A s (cw κ a r11 q_39 f_39) H locs → ∀ ls : Array Slot, lv_has ls 4 [(3, .int y3_39), (2, .int y2_39), (0, .ref (a 3)), (1, .ref (a (6 + 2 * i)))] → W p l e (Rm 4 99 0 0) s m args below meth c H locs 0 0 Q (F0 m 39 ls []) := by
    intro nn
    induction nn with
    | zero => intro y3_39 y2_39 q_39 f_39 H locs hwq_39 hμ; exact absurd hμ (Nat.not_lt_zero _)
    | succ nn ih39 =>
      intro y3_39 y2_39 q_39 f_39 H locs hwq_39 hμ39 hB ls hl
      refine lv_iload_n hx hb dX1_walk_39 rfl (lv_at hl 0 rfl) ?_
      refine lv_aload_n hx hb dX1_walk_40 rfl (lv_at hl 2 rfl) ?_
      refine gf hX hB cw3 rfl in1 0 (by decide) wm_1_95 rfl rfl dX1_walk_41 ?_
      refine gfN hX hB (cwG (i := 8) (by decide)) rfl in3 1 (by decide) wn_1_49 rfl rfl dX1_walk_44 ?_
      refine lv_icmp_ge (tgt := 84) hx hb dX1_walk_47 (by decide) (fun c32 => ?_) (fun c32 => ?_)
      · rw [← hQ]
        exact end_v hX hB hA3 rfl ⟨r11, q_39, f_39, rfl, (fun h => ho12 ((fun h => ho7 ((fun h => ho2 ((fun h => h) h)) h)) h)), hwq_39, rfl⟩ (Nat.le_of_ble_eq_true rfl) (Nat.le_of_ble_eq_true rfl) dX1_walk_84
      · refine lv_iload_n hx hb dX1_walk_50 rfl (lv_at hl 0 rfl) ?_
        refine lv_aload_n hx hb dX1_walk_51 rfl (lv_at hl 2 rfl) ?_
        refine gf hX hB cw3 rfl in1 0 (by decide) wm_1_95 rfl rfl dX1_walk_52 ?_
        refine gfN hX hB (cwG (i := 8) (by decide)) rfl in3 2 (by decide) wn_1_54 rfl rfl dX1_walk_55 ?_
        refine lv_icmp_ge (tgt := 84) hx hb dX1_walk_58 (by decide) (fun c33 => ?_) (fun c33 => ?_)
        · rw [← hQ]
          exact end_v hX hB hA3 rfl ⟨r11, q_39, f_39, rfl, (fun h => ho12 ((fun h => ho7 ((fun h => ho2 ((fun h => h) h)) h)) h)), hwq_39, rfl⟩ (Nat.le_of_ble_eq_true rfl) (Nat.le_of_ble_eq_true rfl) dX1_walk_84
        · refine lv_iload_n hx hb dX1_walk_61 rfl (lv_at hl 1 rfl) ?_
          refine lv_if_eq (tgt := 84) hx hb dX1_walk_62 (by decide) (fun c34 => ?_) (fun c34 => ?_)
          · rw [← hQ]
            exact end_v hX hB hA3 rfl ⟨r11, q_39, f_39, rfl, (fun h => ho12 ((fun h => ho7 ((fun h => ho2 ((fun h => h) h)) h)) h)), hwq_39, rfl⟩ (Nat.le_of_ble_eq_true rfl) (Nat.le_of_ble_eq_true rfl) dX1_walk_84
          · refine lv_aload_n hx hb dX1_walk_65 rfl (lv_at hl 2 rfl) ?_
            refine gf hX hB cw3 rfl in1 3 (by decide) wm_1_104 rfl rfl dX1_walk_66 ?_
            refine lv_if_ne (tgt := 84) hx hb dX1_walk_69 (by decide) (fun c35 => ?_) (fun c35 => ?_)
            · rw [← hQ]
              exact end_v hX hB hA3 rfl ⟨r11, q_39, f_39, rfl, (fun h => ho12 ((fun h => ho7 ((fun h => ho2 ((fun h => h) h)) h)) h)), hwq_39, rfl⟩ (Nat.le_of_ble_eq_true rfl) (Nat.le_of_ble_eq_true rfl) dX1_walk_84
            · refine lv_aload_n hx hb dX1_walk_72 rfl (lv_at hl 2 rfl) ?_
              refine lv_iload_n hx hb dX1_walk_73 rfl (lv_at hl 0 rfl) ?_
              refine call_V (n := 1) (As := [.int y3_39]) (rest := []) hX hB (k_X1_clearCross κ l a r11 q_39 f_39 y3_39) ⟨rfl, by decide, by decide, by decide +kernel⟩ wm_2_78 wm_2_80 wp_7 wm_1_4 wm_2_81 ⟨Nat.le_of_ble_eq_true rfl, Nat.le_of_ble_eq_true rfl⟩ ⟨Nat.le_of_ble_eq_true rfl, Nat.le_of_ble_eq_true rfl⟩ cw3 rfl rfl rfl hl.1 rfl (Nat.le_of_ble_eq_true rfl) dX1_walk_74 (fun o w' H locs hp hB => ?_)
              obtain ⟨x36, q37, f39, rfl, bx36, hq38, rfl⟩ := hp
              refine W.eq (g2 := F0 m 77 ls [.int x36]) rfl ?_
              refine lv_istore_n (lv' := [(2, .int x36), (3, .int y3_39), (0, .ref (a 3)), (1, .ref (a (6 + 2 * i)))]) hx hb dX1_walk_77 rfl hl (by decide) rfl (fun ls hl => ?_)
              refine lv_iinc (v := y3_39 + 1) (lv' := [(3, .int (y3_39 + 1)), (2, .int x36), (0, .ref (a 3)), (1, .ref (a (6 + 2 * i)))]) hx hb dX1_walk_78 hl (k := 1) rfl rfl (by decide) rfl (fun ls hl => ?_)
              refine lv_goto (tgt := 39) hx hb dX1_walk_81 (by decide) ?_
              exact ih39 (y3_39 + 1) x36 q37 f39 _ _ (hq38.trans hwq_39) (gap_step c32 hμ39) hB _ hl
  exact lp39 _ 0 1 (va_up q13 1 0) f15 _ _ (hq14.trans (hq9.trans (hq4.trans rfl))) (Nat.lt_succ_self _) hB _ hl
set_option maxHeartbeats 4000000 in
set_option maxRecDepth 100000 in
theorem k_X1_countRank (κ : Kt) (l : Launch) (a : Nat → Nat) (r q : Nat → Int32) (f : Nat → Nat → Int64)  : CM κ l yX1_countRank cX1_countRank 3 (some .int) 1 22 0 0 [.ref (a 3)] (cw κ a r q f) (fun o w' => ∃ x : Int32, o = some (.int x) ∧ w' = cw κ a r q f) := by
  refine CM_begin (plainFor_of_name (by decide)) (Nat.le_of_ble_eq_true rfl) ?_
  intro p e s m args below meth c A Q hX hnm hA3 hQ hB ls hl
  have hx := hX.1.1
  have hb := hX.1.2.1
  have hl : lv_has ls 3 [(0, .ref (a 3))] := hl
  refine lv_iconst (v := 0) hx hb dX1_countRank_0 (by decide) ?_
  refine lv_istore_n (lv' := [(1, .int 0), (0, .ref (a 3))]) hx hb dX1_countRank_1 rfl hl (by decide) rfl (fun ls hl => ?_)
  refine lv_iconst (v := 0) hx hb dX1_countRank_2 (by decide) ?_
  refine lv_istore_n (lv' := [(2, .int 0), (1, .int 0), (0, .ref (a 3))]) hx hb dX1_countRank_3 rfl hl (by decide) rfl (fun ls hl => ?_)
  have lp4 : ∀ (nn : Nat) (y2_4 : Int32) (y1_4 : Int32) (H : Heap) (locs : List Loc), gap (r (2 * 8)) y2_4 < nn → Bd κ A s (cw κ a r q f) H locs → ∀ ls : Array Slot, lv_has ls 3 [(2, .int y2_4), (1, .int y1_4), (0, .ref (a 3))] → W p l e (Rm 1 22 0 0) s m args below meth c H locs 0 0 Q (F0 m 4 ls []) := by
    intro nn
    induction nn with
    | zero => intro y2_4 y1_4 H locs hμ; exact absurd hμ (Nat.not_lt_zero _)
    | succ nn ih4 =>
      intro y2_4 y1_4 H locs hμ4 hB ls hl
      refine lv_iload_n hx hb dX1_countRank_4 rfl (lv_at hl 0 rfl) ?_
      refine lv_aload_n hx hb dX1_countRank_5 rfl (lv_at hl 2 rfl) ?_
      refine gf hX hB cw3 rfl in1 0 (by decide) wm_1_95 rfl rfl dX1_countRank_6 ?_
      refine gfN hX hB (cwG (i := 8) (by decide)) rfl in3 1 (by decide) wn_1_49 rfl rfl dX1_countRank_9 ?_
      refine lv_icmp_ge (tgt := 49) hx hb dX1_countRank_12 (by decide) (fun c9 => ?_) (fun c9 => ?_)
      · refine lv_iload_n hx hb dX1_countRank_49 rfl (lv_at hl 1 rfl) ?_
        rw [← hQ]
        exact end_i hX hB hA3 rfl rfl ⟨y1_4, rfl, rfl⟩ (Nat.le_of_ble_eq_true rfl) (Nat.le_of_ble_eq_true rfl) dX1_countRank_50
      · refine lv_iload_n hx hb dX1_countRank_15 rfl (lv_at hl 0 rfl) ?_
        refine lv_aload_n hx hb dX1_countRank_16 rfl (lv_at hl 2 rfl) ?_
        refine gf hX hB cw3 rfl in1 0 (by decide) wm_1_95 rfl rfl dX1_countRank_17 ?_
        refine gfN hX hB (cwG (i := 8) (by decide)) rfl in3 2 (by decide) wn_1_54 rfl rfl dX1_countRank_20 ?_
        refine lv_icmp_ge (tgt := 49) hx hb dX1_countRank_23 (by decide) (fun c10 => ?_) (fun c10 => ?_)
        · refine lv_iload_n hx hb dX1_countRank_49 rfl (lv_at hl 1 rfl) ?_
          rw [← hQ]
          exact end_i hX hB hA3 rfl rfl ⟨y1_4, rfl, rfl⟩ (Nat.le_of_ble_eq_true rfl) (Nat.le_of_ble_eq_true rfl) dX1_countRank_50
        · refine lv_aload_n hx hb dX1_countRank_26 rfl (lv_at hl 2 rfl) ?_
          refine gf hX hB cw3 rfl in1 0 (by decide) wm_1_95 rfl rfl dX1_countRank_27 ?_
          refine lv_iload_n hx hb dX1_countRank_30 rfl (lv_at hl 0 rfl) ?_
          refine lv_iload_n hx hb dX1_countRank_31 rfl (lv_at hl 0 rfl) ?_
          refine call_V (n := 2) (As := [.int y2_4, .int y2_4]) (rest := []) hX hB (k_X3_get κ l a r q f 8 y2_4 y2_4 (by decide)) ⟨rfl, by decide, by decide, by decide +kernel⟩ wm_2_87 wm_1_187 wm_1_188 wm_1_2 wm_1_189 ⟨Nat.le_of_ble_eq_true rfl, Nat.le_of_ble_eq_true rfl⟩ ⟨Nat.le_of_ble_eq_true rfl, Nat.le_of_ble_eq_true rfl⟩ (cwG (i := 8) (by decide)) rfl rfl rfl hl.1 rfl (Nat.le_of_ble_eq_true rfl) dX1_countRank_32 (fun o w' H locs hp hB => ?_)
          obtain ⟨x11, rfl, rfl⟩ := hp
          refine W.eq (g2 := F0 m 35 ls [.long x11]) rfl ?_
          refine lv_lconst (v := 0) hx hb dX1_countRank_35 (by decide) ?_
          refine W.lcmp hx hb dX1_countRank_36 ?_
          refine lv_if_eq (tgt := 43) hx hb dX1_countRank_37 (by decide) (fun c12 => ?_) (fun c12 => ?_)
          · refine lv_iinc (v := y2_4 + 1) (lv' := [(2, .int (y2_4 + 1)), (1, .int y1_4), (0, .ref (a 3))]) hx hb dX1_countRank_43 hl (k := 0) rfl rfl (by decide) rfl (fun ls hl => ?_)
            refine lv_goto (tgt := 4) hx hb dX1_countRank_46 (by decide) ?_
            exact ih4 (y2_4 + 1) y1_4 _ _  (gap_step c9 hμ4) hB _ hl
          · refine lv_iinc (v := y1_4 + 1) (lv' := [(1, .int (y1_4 + 1)), (2, .int y2_4), (0, .ref (a 3))]) hx hb dX1_countRank_40 hl (k := 1) rfl rfl (by decide) rfl (fun ls hl => ?_)
            refine lv_iinc (v := y2_4 + 1) (lv' := [(2, .int (y2_4 + 1)), (1, .int (y1_4 + 1)), (0, .ref (a 3))]) hx hb dX1_countRank_43 hl (k := 1) rfl rfl (by decide) rfl (fun ls hl => ?_)
            refine lv_goto (tgt := 4) hx hb dX1_countRank_46 (by decide) ?_
            exact ih4 (y2_4 + 1) (y1_4 + 1) _ _  (gap_step c9 hμ4) hB _ hl
  exact lp4 _ 0 0 _ _  (Nat.lt_succ_self _) hB _ hl
set_option maxHeartbeats 4000000 in
set_option maxRecDepth 100000 in
theorem k_X2_divide (κ : Kt) (l : Launch) (a : Nat → Nat) (r q : Nat → Int32) (f : Nat → Nat → Int64) (j : Nat) (p0 : Int32) (hj : j < 15) : CM κ l yX2_divide cX2_divide 8 (some .boolean) 3 71 0 0 [.ref (a 4), .ref (a 3), .ref (a (6 + 2 * j)), .int p0] (cw κ a r q f) (fun o w' => ∃ x : Int32, ∃ (r' q' : Nat → Int32) (f' : Nat → Nat → Int64), o = some (.int x) ∧ (x = 0 ∨ x = 1) ∧ (okr r → okr r') ∧ q' 4 = q 4 ∧ w' = cw κ a r' q' f') := by
  refine CM_begin (plainFor_of_name (by decide)) (Nat.le_of_ble_eq_true rfl) ?_
  intro p e s m args below meth c A Q hX hnm hA3 hQ hB ls hl
  have hx := hX.1.1
  have hb := hX.1.2.1
  have hl : lv_has ls 8 [(0, .ref (a 4)), (1, .ref (a 3)), (2, .ref (a (6 + 2 * j))), (3, .int p0)] := hl
  refine lv_aload_n hx hb dX2_divide_0 rfl (lv_at hl 0 rfl) ?_
  refine gf hX hB cw4 rfl in2 0 (by decide) wm_1_123 rfl rfl dX2_divide_1 ?_
  refine lv_aload_n hx hb dX2_divide_4 rfl (lv_at hl 2 rfl) ?_
  refine lv_iload_n hx hb dX2_divide_5 rfl (lv_at hl 3 rfl) ?_
  refine call_V (n := 2) (As := [.ref (a (6 + 2 * j)), .int p0]) (rest := []) hX hB (k_X3_becomeColumn κ l a r q f 11 j p0 (by decide) hj) ⟨rfl, by decide, by decide, by decide +kernel⟩ wm_3_189 wm_3_190 wm_3_191 wm_1_2 wm_3_192 ⟨Nat.le_of_ble_eq_true rfl, Nat.le_of_ble_eq_true rfl⟩ ⟨Nat.le_of_ble_eq_true rfl, Nat.le_of_ble_eq_true rfl⟩ (cwG (i := 11) (by decide)) rfl rfl rfl hl.1 rfl (Nat.le_of_ble_eq_true rfl) dX2_divide_6 (fun o w' H locs hp hB => ?_)
  obtain ⟨r1, q3, f5, rfl, ho2, hq4, rfl⟩ := hp
  refine W.eq (g2 := F0 m 9 ls []) rfl ?_
  refine lv_aload_n hx hb dX2_divide_9 rfl (lv_at hl 0 rfl) ?_
  refine gf hX hB cw4 rfl in2 1 (by decide) wm_1_124 rfl rfl dX2_divide_10 ?_
  refine lv_aload_n hx hb dX2_divide_13 rfl (lv_at hl 1 rfl) ?_
  refine gfN hX hB cw3 rfl in1 1 (by decide) wn_1_99 rfl rfl dX2_divide_14 ?_
  refine lv_aload_n hx hb dX2_divide_17 rfl (lv_at hl 0 rfl) ?_
  refine gf hX hB cw4 rfl in2 0 (by decide) wm_1_123 rfl rfl dX2_divide_18 ?_
  refine call_V (n := 2) (As := [.ref (a 24), .ref (a 28)]) (rest := []) hX hB (k_X3_becomeProduct κ l a r1 q3 f5 12 9 11 (by decide) (by decide) (by decide)) ⟨rfl, by decide, by decide, by decide +kernel⟩ wm_3_193 wm_2_41 wm_2_42 wm_1_2 wm_2_43 ⟨Nat.le_of_ble_eq_true rfl, Nat.le_of_ble_eq_true rfl⟩ ⟨Nat.le_of_ble_eq_true rfl, Nat.le_of_ble_eq_true rfl⟩ (cwG (i := 12) (by decide)) rfl rfl rfl hl.1 rfl (Nat.le_of_ble_eq_true rfl) dX2_divide_21 (fun o w' H locs hp hB => ?_)
  obtain ⟨r6, q8, f10, rfl, ho7, hq9, rfl⟩ := hp
  refine W.eq (g2 := F0 m 24 ls []) rfl ?_
  refine lv_aload_n hx hb dX2_divide_24 rfl (lv_at hl 0 rfl) ?_
  refine gf hX hB cw4 rfl in2 2 (by decide) wm_1_125 rfl rfl dX2_divide_25 ?_
  refine lv_aload_n hx hb dX2_divide_28 rfl (lv_at hl 1 rfl) ?_
  refine gfN hX hB cw3 rfl in1 0 (by decide) wn_1_96 rfl rfl dX2_divide_29 ?_
  refine gfN hX hB (cwG (i := 8) (by decide)) rfl in3 2 (by decide) wn_1_55 rfl rfl dX2_divide_32 ?_
  refine lv_iconst (v := 1) hx hb dX2_divide_35 (by decide) ?_
  refine call_V (n := 2) (As := [.int (r6 (2 * 8 + 1)), .int 1]) (rest := []) hX hB (k_X3_reshape κ l a r6 q8 f10 13 (r6 (2 * 8 + 1)) 1 (by decide)) ⟨rfl, by decide, by decide, by decide +kernel⟩ wm_3_194 wm_1_213 wm_1_214 wm_1_2 wm_1_215 ⟨Nat.le_of_ble_eq_true rfl, Nat.le_of_ble_eq_true rfl⟩ ⟨Nat.le_of_ble_eq_true rfl, Nat.le_of_ble_eq_true rfl⟩ (cwG (i := 13) (by decide)) rfl rfl rfl hl.1 rfl (Nat.le_of_ble_eq_true rfl) dX2_divide_36 (fun o w' H locs hp hB => ?_)
  obtain ⟨r11, q13, f15, rfl, ho12, hq14, rfl⟩ := hp
  refine W.eq (g2 := F0 m 39 ls []) rfl ?_
  refine lv_aload_n hx hb dX2_divide_39 rfl (lv_at hl 1 rfl) ?_
  refine call_V (n := 0) (As := []) (rest := []) hX hB (k_X1_countRank κ l a r11 q13 f15) ⟨rfl, by decide, by decide, by decide +kernel⟩ wm_3_195 wm_3_196 wm_3_197 wm_1_4 wm_3_198 ⟨Nat.le_of_ble_eq_true rfl, Nat.le_of_ble_eq_true rfl⟩ ⟨Nat.le_of_ble_eq_true rfl, Nat.le_of_ble_eq_true rfl⟩ cw3 rfl rfl rfl hl.1 rfl (Nat.le_of_ble_eq_true rfl) dX2_divide_40 (fun o w' H locs hp hB => ?_)
  obtain ⟨x16, rfl, rfl⟩ := hp
  refine W.eq (g2 := F0 m 43 ls [.int x16]) rfl ?_
  refine lv_istore (lv' := [(4, .int x16), (0, .ref (a 4)), (1, .ref (a 3)), (2, .ref (a (6 + 2 * j))), (3, .int p0)]) hx hb dX2_divide_43 hl (by decide) rfl (fun ls hl => ?_)
  refine lv_iconst (v := 0) hx hb dX2_divide_45 (by decide) ?_
  refine lv_istore (lv' := [(5, .int 0), (4, .int x16), (0, .ref (a 4)), (1, .ref (a 3)), (2, .ref (a (6 + 2 * j))), (3, .int p0)]) hx hb dX2_divide_46 hl (by decide) rfl (fun ls hl => ?_)
  have lp48 : ∀ (nn : Nat) (y5_48 : Int32) (f_48 : Nat → Nat → Int64) (H : Heap) (locs : List Loc), gap (r11 (2 * 12)) y5_48 < nn → Bd κ A s (cw κ a r11 q13 f_48) H locs → ∀ ls : Array Slot, lv_has ls 8 [(5, .int y5_48), (4, .int x16), (0, .ref (a 4)), (1, .ref (a 3)), (2, .ref (a (6 + 2 * j))), (3, .int p0)] → W p l e (Rm 3 71 0 0) s m args below meth c H locs 0 0 Q (F0 m 48 ls []) := by
    intro nn
    induction nn with
    | zero => intro y5_48 f_48 H locs hμ; exact absurd hμ (Nat.not_lt_zero _)
    | succ nn ih48 =>
      intro y5_48 f_48 H locs hμ48 hB ls hl
      refine lv_iload hx hb dX2_divide_48 (lv_at hl 0 rfl) ?_
      refine lv_aload_n hx hb dX2_divide_50 rfl (lv_at hl 2 rfl) ?_
      refine gf hX hB cw4 rfl in2 1 (by decide) wm_1_124 rfl rfl dX2_divide_51 ?_
      refine gfN hX hB (cwG (i := 12) (by decide)) rfl in3 1 (by decide) wn_1_50 rfl rfl dX2_divide_54 ?_
      refine lv_icmp_ge (tgt := 142) hx hb dX2_divide_57 (by decide) (fun c41 => ?_) (fun c41 => ?_)
      · refine lv_iconst (v := 1) hx hb dX2_divide_142 (by decide) ?_
        rw [← hQ]
        exact end_i hX hB hA3 rfl rfl ⟨1, r11, q13, f_48, rfl, Or.inr rfl, (fun h => ho12 ((fun h => ho7 ((fun h => ho2 ((fun h => h) h)) h)) h)), (hq14.trans (hq9.trans (hq4.trans rfl))), rfl⟩ (Nat.le_of_ble_eq_true rfl) (Nat.le_of_ble_eq_true rfl) dX2_divide_143
      · refine lv_iload hx hb dX2_divide_60 (lv_at hl 0 rfl) ?_
        refine lv_iload hx hb dX2_divide_62 (lv_at hl 1 rfl) ?_
        have jn82 : ∀ (z0_82 : Int64) (H : Heap) (locs : List Loc), Bd κ A s (cw κ a r11 q13 f_48) H locs → ∀ ls : Array Slot, lv_has ls 8 [(5, .int y5_48), (4, .int x16), (0, .ref (a 4)), (1, .ref (a 3)), (2, .ref (a (6 + 2 * j))), (3, .int p0)] → W p l e (Rm 3 71 0 0) s m args below meth c H locs 0 0 Q (F0 m 82 ls [.long z0_82]) := by
          intro z0_82 H locs hB ls hl
          refine lv_lstore (lv' := [(6, .long z0_82), (5, .int y5_48), (4, .int x16), (0, .ref (a 4)), (1, .ref (a 3)), (2, .ref (a (6 + 2 * j))), (3, .int p0)]) hx hb dX2_divide_82 hl (by decide) rfl (fun ls hl => ?_)
          refine lv_lload hx hb dX2_divide_84 (lv_at hl 0 rfl) ?_
          refine lv_aload_n hx hb dX2_divide_86 rfl (lv_at hl 3 rfl) ?_
          refine gf hX hB cw4 rfl in2 1 (by decide) wm_1_124 rfl rfl dX2_divide_87 ?_
          refine lv_iload hx hb dX2_divide_90 (lv_at hl 1 rfl) ?_
          refine lv_iconst (v := 0) hx hb dX2_divide_92 (by decide) ?_
          refine call_V (n := 2) (As := [.int y5_48, .int 0]) (rest := [.long z0_82]) hX hB (k_X3_get κ l a r11 q13 f_48 12 y5_48 0 (by decide)) ⟨rfl, by decide, by decide, by decide +kernel⟩ wm_3_199 wm_1_187 wm_1_188 wm_1_2 wm_1_189 ⟨Nat.le_of_ble_eq_true rfl, Nat.le_of_ble_eq_true rfl⟩ ⟨Nat.le_of_ble_eq_true rfl, Nat.le_of_ble_eq_true rfl⟩ (cwG (i := 12) (by decide)) rfl rfl rfl hl.1 rfl (Nat.le_of_ble_eq_true rfl) dX2_divide_93 (fun o w' H locs hp hB => ?_)
          obtain ⟨x44, rfl, rfl⟩ := hp
          refine W.eq (g2 := F0 m 96 ls [.long x44, .long z0_82]) rfl ?_
          refine call_SN (n := 2) (As := [.long z0_82, .long x44]) (rest := []) hX hB (k_X5_divides κ l (cw κ a r11 q13 f_48) z0_82 x44 ) ⟨by decide, by decide, by decide +kernel⟩ wn_3_200 wm_2_116 wm_1_1 wm_2_117 ⟨Nat.le_of_ble_eq_true rfl, Nat.le_of_ble_eq_true rfl⟩ ⟨Nat.le_of_ble_eq_true rfl, Nat.le_of_ble_eq_true rfl⟩ rfl hl.1 rfl (Nat.le_of_ble_eq_true rfl) dX2_divide_96 (fun o w' H locs hp hB => ?_)
          obtain ⟨x45, rfl, bx45, hw9⟩ := hp
          rw [hw9] at hB
          refine W.eq (g2 := F0 m 99 ls [.int x45]) rfl ?_
          refine lv_if_ne (tgt := 104) hx hb dX2_divide_99 (by decide) (fun c46 => ?_) (fun c46 => ?_)
          · refine lv_iload hx hb dX2_divide_104 (lv_at hl 1 rfl) ?_
            refine lv_iload hx hb dX2_divide_106 (lv_at hl 2 rfl) ?_
            refine lv_icmp_ge (tgt := 136) hx hb dX2_divide_108 (by decide) (fun c47 => ?_) (fun c47 => ?_)
            · refine lv_iinc (v := y5_48 + 1) (lv' := [(5, .int (y5_48 + 1)), (6, .long z0_82), (4, .int x16), (0, .ref (a 4)), (1, .ref (a 3)), (2, .ref (a (6 + 2 * j))), (3, .int p0)]) hx hb dX2_divide_136 hl (k := 1) rfl rfl (by decide) rfl (fun ls hl => ?_)
              refine lv_goto (tgt := 48) hx hb dX2_divide_139 (by decide) ?_
              exact ih48 (y5_48 + 1) f_48 _ _  (gap_step c41 hμ48) hB _ (lv_sub hl [0, 2, 3, 4, 5, 6] rfl)
            · refine lv_aload_n hx hb dX2_divide_111 rfl (lv_at hl 3 rfl) ?_
              refine gf hX hB cw4 rfl in2 2 (by decide) wm_1_125 rfl rfl dX2_divide_112 ?_
              refine lv_iload hx hb dX2_divide_115 (lv_at hl 1 rfl) ?_
              refine lv_iconst (v := 0) hx hb dX2_divide_117 (by decide) ?_
              refine lv_aload_n hx hb dX2_divide_118 rfl (lv_at hl 3 rfl) ?_
              refine gf hX hB cw4 rfl in2 1 (by decide) wm_1_124 rfl rfl dX2_divide_119 ?_
              refine lv_iload hx hb dX2_divide_122 (lv_at hl 1 rfl) ?_
              refine lv_iconst (v := 0) hx hb dX2_divide_124 (by decide) ?_
              refine call_V (n := 2) (As := [.int y5_48, .int 0]) (rest := [.int 0, .int y5_48, .ref (a 32)]) hX hB (k_X3_get κ l a r11 q13 f_48 12 y5_48 0 (by decide)) ⟨rfl, by decide, by decide, by decide +kernel⟩ wm_3_199 wm_1_187 wm_1_188 wm_1_2 wm_1_189 ⟨Nat.le_of_ble_eq_true rfl, Nat.le_of_ble_eq_true rfl⟩ ⟨Nat.le_of_ble_eq_true rfl, Nat.le_of_ble_eq_true rfl⟩ (cwG (i := 12) (by decide)) rfl rfl rfl hl.1 rfl (Nat.le_of_ble_eq_true rfl) dX2_divide_125 (fun o w' H locs hp hB => ?_)
              obtain ⟨x48, rfl, rfl⟩ := hp
              refine W.eq (g2 := F0 m 128 ls [.long x48, .int 0, .int y5_48, .ref (a 32)]) rfl ?_
              refine lv_lload hx hb dX2_divide_128 (lv_at hl 0 rfl) ?_
              refine call_SN (n := 2) (As := [.long x48, .long z0_82]) (rest := [.int 0, .int y5_48, .ref (a 32)]) hX hB (k_X5_divideDown κ l (cw κ a r11 q13 f_48) x48 z0_82 ) ⟨by decide, by decide, by decide +kernel⟩ wn_3_201 wm_2_17 wm_1_1 wm_2_18 ⟨Nat.le_of_ble_eq_true rfl, Nat.le_of_ble_eq_true rfl⟩ ⟨Nat.le_of_ble_eq_true rfl, Nat.le_of_ble_eq_true rfl⟩ rfl hl.1 rfl (Nat.le_of_ble_eq_true rfl) dX2_divide_130 (fun o w' H locs hp hB => ?_)
              obtain ⟨x49, rfl, hw9⟩ := hp
              rw [hw9] at hB
              refine W.eq (g2 := F0 m 133 ls [.long x49, .int 0, .int y5_48, .ref (a 32)]) rfl ?_
              refine call_V (n := 3) (As := [.int y5_48, .int 0, .long x49]) (rest := []) hX hB (k_X3_set κ l a r11 q13 f_48 13 y5_48 0 x49 (by decide)) ⟨rfl, by decide, by decide, by decide +kernel⟩ wm_3_202 wm_1_223 wm_1_224 wm_1_2 wm_1_225 ⟨Nat.le_of_ble_eq_true rfl, Nat.le_of_ble_eq_true rfl⟩ ⟨Nat.le_of_ble_eq_true rfl, Nat.le_of_ble_eq_true rfl⟩ (cwG (i := 13) (by decide)) rfl rfl rfl hl.1 rfl (Nat.le_of_ble_eq_true rfl) dX2_divide_133 (fun o w' H locs hp hB => ?_)
              obtain ⟨f50, rfl, rfl⟩ := hp
              refine W.eq (g2 := F0 m 136 ls []) rfl ?_
              refine lv_iinc (v := y5_48 + 1) (lv' := [(5, .int (y5_48 + 1)), (6, .long z0_82), (4, .int x16), (0, .ref (a 4)), (1, .ref (a 3)), (2, .ref (a (6 + 2 * j))), (3, .int p0)]) hx hb dX2_divide_136 hl (k := 1) rfl rfl (by decide) rfl (fun ls hl => ?_)
              refine lv_goto (tgt := 48) hx hb dX2_divide_139 (by decide) ?_
              exact ih48 (y5_48 + 1) f50 _ _  (gap_step c41 hμ48) hB _ (lv_sub hl [0, 2, 3, 4, 5, 6] rfl)
          · refine lv_iconst (v := 0) hx hb dX2_divide_102 (by decide) ?_
            rw [← hQ]
            exact end_i hX hB hA3 rfl rfl ⟨0, r11, q13, f_48, rfl, Or.inl rfl, (fun h => ho12 ((fun h => ho7 ((fun h => ho2 ((fun h => h) h)) h)) h)), (hq14.trans (hq9.trans (hq4.trans rfl))), rfl⟩ (Nat.le_of_ble_eq_true rfl) (Nat.le_of_ble_eq_true rfl) dX2_divide_103
        refine lv_icmp_ge (tgt := 81) hx hb dX2_divide_64 (by decide) (fun c51 => ?_) (fun c51 => ?_)
        · refine lv_lconst (v := 0) hx hb dX2_divide_81 (by decide) ?_
          exact jn82 0 _ _  hB _ hl
        · refine lv_aload_n hx hb dX2_divide_67 rfl (lv_at hl 3 rfl) ?_
          refine gfN hX hB cw3 rfl in1 0 (by decide) wn_1_96 rfl rfl dX2_divide_68 ?_
          refine lv_iload hx hb dX2_divide_71 (lv_at hl 0 rfl) ?_
          refine lv_iload hx hb dX2_divide_73 (lv_at hl 0 rfl) ?_
          refine call_V (n := 2) (As := [.int y5_48, .int y5_48]) (rest := []) hX hB (k_X3_get κ l a r11 q13 f_48 8 y5_48 y5_48 (by decide)) ⟨rfl, by decide, by decide, by decide +kernel⟩ wm_3_199 wm_1_187 wm_1_188 wm_1_2 wm_1_189 ⟨Nat.le_of_ble_eq_true rfl, Nat.le_of_ble_eq_true rfl⟩ ⟨Nat.le_of_ble_eq_true rfl, Nat.le_of_ble_eq_true rfl⟩ (cwG (i := 8) (by decide)) rfl rfl rfl hl.1 rfl (Nat.le_of_ble_eq_true rfl) dX2_divide_75 (fun o w' H locs hp hB => ?_)
          obtain ⟨x52, rfl, rfl⟩ := hp
          refine W.eq (g2 := F0 m 78 ls [.long x52]) rfl ?_
          refine lv_goto (tgt := 82) hx hb dX2_divide_78 (by decide) ?_
          exact jn82 x52 _ _  hB _ hl
  exact lp48 _ 0 f15 _ _  (Nat.lt_succ_self _) hB _ hl
set_option maxHeartbeats 4000000 in
set_option maxRecDepth 100000 in
theorem k_X2_findSolution (κ : Kt) (l : Launch) (a : Nat → Nat) (r q : Nat → Int32) (f : Nat → Nat → Int64)  : CM κ l yX2_findSolution cX2_findSolution 2 (some .boolean) 3 71 0 0 [.ref (a 4), .ref (a 3)] (cw κ a r q f) (fun o w' => ∃ x : Int32, ∃ (r' q' : Nat → Int32) (f' : Nat → Nat → Int64), o = some (.int x) ∧ (x = 0 ∨ x = 1) ∧ (okr r → okr r') ∧ q' 4 = q 4 ∧ w' = cw κ a r' q' f') := by
  refine CM_begin (plainFor_of_name (by decide)) (Nat.le_of_ble_eq_true rfl) ?_
  intro p e s m args below meth c A Q hX hnm hA3 hQ hB ls hl
  have hx := hX.1.1
  have hb := hX.1.2.1
  have hl : lv_has ls 2 [(0, .ref (a 4)), (1, .ref (a 3))] := hl
  refine lv_aload_n hx hb dX2_findSolution_0 rfl (lv_at hl 0 rfl) ?_
  refine gf hX hB cw4 rfl in2 2 (by decide) wm_1_125 rfl rfl dX2_findSolution_1 ?_
  refine lv_ldc2 (own := RX2) (v := 1000000000) hx hb hX.1.2.2.2.1 (hX.1.2.2.2.2 _ wm_3_207) dX2_findSolution_4 ?_
  refine call_V (n := 1) (As := [.long 1000000000]) (rest := []) hX hB (k_X3_isWithin κ l a r q f 13 1000000000 (by decide)) ⟨rfl, by decide, by decide, by decide +kernel⟩ wm_3_208 wm_2_28 wm_2_29 wm_1_2 wm_2_30 ⟨Nat.le_of_ble_eq_true rfl, Nat.le_of_ble_eq_true rfl⟩ ⟨Nat.le_of_ble_eq_true rfl, Nat.le_of_ble_eq_true rfl⟩ (cwG (i := 13) (by decide)) rfl rfl rfl hl.1 rfl (Nat.le_of_ble_eq_true rfl) dX2_findSolution_7 (fun o w' H locs hp hB => ?_)
  obtain ⟨x1, rfl, bx1, rfl⟩ := hp
  refine W.eq (g2 := F0 m 10 ls [.int x1]) rfl ?_
  refine lv_if_ne (tgt := 15) hx hb dX2_findSolution_10 (by decide) (fun c2 => ?_) (fun c2 => ?_)
  · refine lv_aload_n hx hb dX2_findSolution_15 rfl (lv_at hl 0 rfl) ?_
    refine gf hX hB cw4 rfl in2 3 (by decide) wm_1_126 rfl rfl dX2_findSolution_16 ?_
    refine lv_aload_n hx hb dX2_findSolution_19 rfl (lv_at hl 1 rfl) ?_
    refine gfN hX hB cw3 rfl in1 2 (by decide) wn_1_102 rfl rfl dX2_findSolution_20 ?_
    refine lv_aload_n hx hb dX2_findSolution_23 rfl (lv_at hl 0 rfl) ?_
    refine gf hX hB cw4 rfl in2 2 (by decide) wm_1_125 rfl rfl dX2_findSolution_24 ?_
    refine call_V (n := 2) (As := [.ref (a 26), .ref (a 32)]) (rest := []) hX hB (k_X3_becomeProduct κ l a r q f 14 10 13 (by decide) (by decide) (by decide)) ⟨rfl, by decide, by decide, by decide +kernel⟩ wm_3_193 wm_2_41 wm_2_42 wm_1_2 wm_2_43 ⟨Nat.le_of_ble_eq_true rfl, Nat.le_of_ble_eq_true rfl⟩ ⟨Nat.le_of_ble_eq_true rfl, Nat.le_of_ble_eq_true rfl⟩ (cwG (i := 14) (by decide)) rfl rfl rfl hl.1 rfl (Nat.le_of_ble_eq_true rfl) dX2_findSolution_27 (fun o w' H locs hp hB => ?_)
    obtain ⟨r3, q5, f7, rfl, ho4, hq6, rfl⟩ := hp
    refine W.eq (g2 := F0 m 30 ls []) rfl ?_
    refine lv_aload_n hx hb dX2_findSolution_30 rfl (lv_at hl 0 rfl) ?_
    refine gf hX hB cw4 rfl in2 3 (by decide) wm_1_126 rfl rfl dX2_findSolution_31 ?_
    refine lv_ldc2 (own := RX2) (v := 1000000000) hx hb hX.1.2.2.2.1 (hX.1.2.2.2.2 _ wm_3_207) dX2_findSolution_34 ?_
    refine call_V (n := 1) (As := [.long 1000000000]) (rest := []) hX hB (k_X3_isWithin κ l a r3 q5 f7 14 1000000000 (by decide)) ⟨rfl, by decide, by decide, by decide +kernel⟩ wm_3_208 wm_2_28 wm_2_29 wm_1_2 wm_2_30 ⟨Nat.le_of_ble_eq_true rfl, Nat.le_of_ble_eq_true rfl⟩ ⟨Nat.le_of_ble_eq_true rfl, Nat.le_of_ble_eq_true rfl⟩ (cwG (i := 14) (by decide)) rfl rfl rfl hl.1 rfl (Nat.le_of_ble_eq_true rfl) dX2_findSolution_37 (fun o w' H locs hp hB => ?_)
    obtain ⟨x8, rfl, bx8, rfl⟩ := hp
    refine W.eq (g2 := F0 m 40 ls [.int x8]) rfl ?_
    rw [← hQ]
    exact end_i hX hB hA3 rfl (nbz (by assumption)) ⟨x8, r3, q5, f7, rfl, (by assumption), (fun h => ho4 ((fun h => h) h)), (hq6.trans rfl), rfl⟩ (Nat.le_of_ble_eq_true rfl) (Nat.le_of_ble_eq_true rfl) dX2_findSolution_40
  · refine lv_iconst (v := 0) hx hb dX2_findSolution_13 (by decide) ?_
    rw [← hQ]
    exact end_i hX hB hA3 rfl rfl ⟨0, r, q, f, rfl, Or.inl rfl, (fun h => h), rfl, rfl⟩ (Nat.le_of_ble_eq_true rfl) (Nat.le_of_ble_eq_true rfl) dX2_findSolution_14
