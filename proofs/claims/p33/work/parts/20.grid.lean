set_option maxHeartbeats 4000000 in
set_option maxRecDepth 100000 in
theorem k_X3_get (κ : Kt) (l : Launch) (a : Nat → Nat) (r q : Nat → Int32) (f : Nat → Nat → Int64) (i : Nat) (p0 : Int32) (p1 : Int32) (hi : i < 15) : CM κ l yX3_get cX3_get 3 (some .long) 0 0 0 0 [.ref (a (6 + 2 * i)), .int p0, .int p1] (cw κ a r q f) (fun o w' => ∃ x : Int64, o = some (.long x) ∧ w' = cw κ a r q f) := by
  refine CM_begin (by decide) (Nat.le_of_ble_eq_true rfl) ?_
  intro p e s m args below meth c A Q hX hnm hA3 hQ hB ls hl
  have hx := hX.1.1
  have hb := hX.1.2.1
  have hl : lv_has ls 3 [(0, .ref (a (6 + 2 * i))), (1, .int p0), (2, .int p1)] := hl
  refine lv_iload_n hx hb dX3_get_0 rfl (lv_at hl 1 rfl) ?_
  refine lv_if_lt (tgt := 18) hx hb dX3_get_1 (by decide) (fun c1 => ?_) (fun c1 => ?_)
  · refine lv_lconst (v := 0) hx hb dX3_get_18 (by decide) ?_
    rw [← hQ]
    exact end_l hX hB hA3 rfl ⟨_, rfl, rfl⟩ (Nat.le_of_ble_eq_true rfl) (Nat.le_of_ble_eq_true rfl) dX3_get_19
  · refine lv_iload_n hx hb dX3_get_4 rfl (lv_at hl 1 rfl) ?_
    refine lv_iconst (v := 4) hx hb dX3_get_5 (by decide) ?_
    refine lv_icmp_ge (tgt := 18) hx hb dX3_get_6 (by decide) (fun c2 => ?_) (fun c2 => ?_)
    · refine lv_lconst (v := 0) hx hb dX3_get_18 (by decide) ?_
      rw [← hQ]
      exact end_l hX hB hA3 rfl ⟨_, rfl, rfl⟩ (Nat.le_of_ble_eq_true rfl) (Nat.le_of_ble_eq_true rfl) dX3_get_19
    · refine lv_iload_n hx hb dX3_get_9 rfl (lv_at hl 2 rfl) ?_
      refine lv_if_lt (tgt := 18) hx hb dX3_get_10 (by decide) (fun c3 => ?_) (fun c3 => ?_)
      · refine lv_lconst (v := 0) hx hb dX3_get_18 (by decide) ?_
        rw [← hQ]
        exact end_l hX hB hA3 rfl ⟨_, rfl, rfl⟩ (Nat.le_of_ble_eq_true rfl) (Nat.le_of_ble_eq_true rfl) dX3_get_19
      · refine lv_iload_n hx hb dX3_get_13 rfl (lv_at hl 2 rfl) ?_
        refine lv_iconst (v := 5) hx hb dX3_get_14 (by decide) ?_
        refine lv_icmp_lt (tgt := 20) hx hb dX3_get_15 (by decide) (fun c4 => ?_) (fun c4 => ?_)
        · refine lv_aload_n hx hb dX3_get_20 rfl (lv_at hl 0 rfl) ?_
          refine gf hX hB (cwG (i := i) hi) rfl in3 0 (by decide) wm_1_45 rfl rfl dX3_get_21 ?_
          refine lv_iload_n hx hb dX3_get_24 rfl (lv_at hl 1 rfl) ?_
          refine lv_iconst (v := 5) hx hb dX3_get_25 (by decide) ?_
          refine lv_imul hx hb dX3_get_26 ?_
          refine lv_iload_n hx hb dX3_get_27 rfl (lv_at hl 2 rfl) ?_
          refine lv_iadd hx hb dX3_get_28 ?_
          refine lald hX hB (cwC (i := i) hi) (ix20 (by first | assumption | exact i32_not_le.mpr (by assumption)) (by first | assumption | exact i32_not_le.mpr (by assumption)) (by first | assumption | exact i32_not_le.mpr (by assumption)) (by first | assumption | exact i32_not_le.mpr (by assumption))) dX3_get_29 ?_
          refine lv_topl (fun g5 eg5 => ?_)
          rw [← hQ]
          exact end_l hX hB hA3 rfl ⟨_, rfl, rfl⟩ (Nat.le_of_ble_eq_true rfl) (Nat.le_of_ble_eq_true rfl) dX3_get_30
        · refine lv_lconst (v := 0) hx hb dX3_get_18 (by decide) ?_
          rw [← hQ]
          exact end_l hX hB hA3 rfl ⟨_, rfl, rfl⟩ (Nat.le_of_ble_eq_true rfl) (Nat.le_of_ble_eq_true rfl) dX3_get_19
set_option maxHeartbeats 4000000 in
set_option maxRecDepth 100000 in
theorem k_X3_set (κ : Kt) (l : Launch) (a : Nat → Nat) (r q : Nat → Int32) (f : Nat → Nat → Int64) (i : Nat) (p0 : Int32) (p1 : Int32) (x : Int64) (hi : i < 15) : CM κ l yX3_set cX3_set 5 (none) 0 0 0 0 [.ref (a (6 + 2 * i)), .int p0, .int p1, .long x] (cw κ a r q f) (fun o w' => ∃ f' : Nat → Nat → Int64, o = none ∧ w' = cw κ a r q f') := by
  refine CM_begin (by decide) (Nat.le_of_ble_eq_true rfl) ?_
  intro p e s m args below meth c A Q hX hnm hA3 hQ hB ls hl
  have hx := hX.1.1
  have hb := hX.1.2.1
  have hl : lv_has ls 5 [(0, .ref (a (6 + 2 * i))), (1, .int p0), (2, .int p1), (3, .long x)] := hl
  refine lv_iload_n hx hb dX3_set_0 rfl (lv_at hl 1 rfl) ?_
  refine lv_if_lt (tgt := 29) hx hb dX3_set_1 (by decide) (fun c1 => ?_) (fun c1 => ?_)
  · rw [← hQ]
    exact end_v hX hB hA3 rfl ⟨_, rfl, rfl⟩ (Nat.le_of_ble_eq_true rfl) (Nat.le_of_ble_eq_true rfl) dX3_set_29
  · refine lv_iload_n hx hb dX3_set_4 rfl (lv_at hl 1 rfl) ?_
    refine lv_iconst (v := 4) hx hb dX3_set_5 (by decide) ?_
    refine lv_icmp_ge (tgt := 29) hx hb dX3_set_6 (by decide) (fun c2 => ?_) (fun c2 => ?_)
    · rw [← hQ]
      exact end_v hX hB hA3 rfl ⟨_, rfl, rfl⟩ (Nat.le_of_ble_eq_true rfl) (Nat.le_of_ble_eq_true rfl) dX3_set_29
    · refine lv_iload_n hx hb dX3_set_9 rfl (lv_at hl 2 rfl) ?_
      refine lv_if_lt (tgt := 29) hx hb dX3_set_10 (by decide) (fun c3 => ?_) (fun c3 => ?_)
      · rw [← hQ]
        exact end_v hX hB hA3 rfl ⟨_, rfl, rfl⟩ (Nat.le_of_ble_eq_true rfl) (Nat.le_of_ble_eq_true rfl) dX3_set_29
      · refine lv_iload_n hx hb dX3_set_13 rfl (lv_at hl 2 rfl) ?_
        refine lv_iconst (v := 5) hx hb dX3_set_14 (by decide) ?_
        refine lv_icmp_ge (tgt := 29) hx hb dX3_set_15 (by decide) (fun c4 => ?_) (fun c4 => ?_)
        · rw [← hQ]
          exact end_v hX hB hA3 rfl ⟨_, rfl, rfl⟩ (Nat.le_of_ble_eq_true rfl) (Nat.le_of_ble_eq_true rfl) dX3_set_29
        · refine lv_aload_n hx hb dX3_set_18 rfl (lv_at hl 0 rfl) ?_
          refine gf hX hB (cwG (i := i) hi) rfl in3 0 (by decide) wm_1_45 rfl rfl dX3_set_19 ?_
          refine lv_iload_n hx hb dX3_set_22 rfl (lv_at hl 1 rfl) ?_
          refine lv_iconst (v := 5) hx hb dX3_set_23 (by decide) ?_
          refine lv_imul hx hb dX3_set_24 ?_
          refine lv_iload_n hx hb dX3_set_25 rfl (lv_at hl 2 rfl) ?_
          refine lv_iadd hx hb dX3_set_26 ?_
          refine lv_lload_n hx hb dX3_set_27 rfl (lv_at hl 3 rfl) ?_
          refine last hX hB (cwC (i := i) hi) (ix20 (by first | assumption | exact i32_not_le.mpr (by assumption)) (by first | assumption | exact i32_not_le.mpr (by assumption)) (by first | assumption | exact i32_not_le.mpr (by assumption)) (by first | assumption | exact i32_not_le.mpr (by assumption))) (cwSL (i := i) hi _) dX3_set_28 (fun H locs hB => ?_)
          rw [← hQ]
          exact end_v hX hB hA3 rfl ⟨_, rfl, rfl⟩ (Nat.le_of_ble_eq_true rfl) (Nat.le_of_ble_eq_true rfl) dX3_set_29
set_option maxHeartbeats 4000000 in
set_option maxRecDepth 100000 in
theorem k_X3_countLines (κ : Kt) (l : Launch) (a : Nat → Nat) (r q : Nat → Int32) (f : Nat → Nat → Int64) (i : Nat) (p0 : Int32) (hi : i < 15) : CM κ l yX3_countLines cX3_countLines 2 (some .int) 0 0 0 0 [.ref (a (6 + 2 * i)), .int p0] (cw κ a r q f) (fun o w' => ∃ x : Int32, o = some (.int x) ∧ w' = cw κ a r q f) := by
  refine CM_begin (by decide) (Nat.le_of_ble_eq_true rfl) ?_
  intro p e s m args below meth c A Q hX hnm hA3 hQ hB ls hl
  have hx := hX.1.1
  have hb := hX.1.2.1
  have hl : lv_has ls 2 [(0, .ref (a (6 + 2 * i))), (1, .int p0)] := hl
  refine lv_iload_n hx hb dX3_countLines_0 rfl (lv_at hl 1 rfl) ?_
  refine lv_if_eq (tgt := 11) hx hb dX3_countLines_1 (by decide) (fun c1 => ?_) (fun c1 => ?_)
  · refine lv_aload_n hx hb dX3_countLines_11 rfl (lv_at hl 0 rfl) ?_
    refine gf hX hB (cwG (i := i) hi) rfl in3 1 (by decide) wm_1_46 rfl rfl dX3_countLines_12 ?_
    rw [← hQ]
    exact end_i hX hB hA3 rfl rfl ⟨_, rfl, rfl⟩ (Nat.le_of_ble_eq_true rfl) (Nat.le_of_ble_eq_true rfl) dX3_countLines_15
  · refine lv_aload_n hx hb dX3_countLines_4 rfl (lv_at hl 0 rfl) ?_
    refine gf hX hB (cwG (i := i) hi) rfl in3 2 (by decide) wm_1_52 rfl rfl dX3_countLines_5 ?_
    refine lv_goto (tgt := 15) hx hb dX3_countLines_8 (by decide) ?_
    rw [← hQ]
    exact end_i hX hB hA3 rfl rfl ⟨_, rfl, rfl⟩ (Nat.le_of_ble_eq_true rfl) (Nat.le_of_ble_eq_true rfl) dX3_countLines_15
set_option maxHeartbeats 4000000 in
set_option maxRecDepth 100000 in
theorem k_X3_hasLine (κ : Kt) (l : Launch) (a : Nat → Nat) (r q : Nat → Int32) (f : Nat → Nat → Int64) (i : Nat) (p0 : Int32) (p1 : Int32) (hi : i < 15) : CM κ l yX3_hasLine cX3_hasLine 3 (some .boolean) 0 0 0 0 [.ref (a (6 + 2 * i)), .int p0, .int p1] (cw κ a r q f) (fun o w' => ∃ x : Int32, o = some (.int x) ∧ (x = 0 ∨ x = 1) ∧ w' = cw κ a r q f) := by
  refine CM_begin (by decide) (Nat.le_of_ble_eq_true rfl) ?_
  intro p e s m args below meth c A Q hX hnm hA3 hQ hB ls hl
  have hx := hX.1.1
  have hb := hX.1.2.1
  have hl : lv_has ls 3 [(0, .ref (a (6 + 2 * i))), (1, .int p0), (2, .int p1)] := hl
  refine lv_iload_n hx hb dX3_hasLine_0 rfl (lv_at hl 2 rfl) ?_
  refine lv_if_lt (tgt := 27) hx hb dX3_hasLine_1 (by decide) (fun c1 => ?_) (fun c1 => ?_)
  · refine lv_iconst (v := 0) hx hb dX3_hasLine_27 (by decide) ?_
    rw [← hQ]
    exact end_i hX hB hA3 rfl rfl ⟨_, rfl, Or.inl rfl, rfl⟩ (Nat.le_of_ble_eq_true rfl) (Nat.le_of_ble_eq_true rfl) dX3_hasLine_28
  · refine lv_iload_n hx hb dX3_hasLine_4 rfl (lv_at hl 2 rfl) ?_
    refine lv_iload_n hx hb dX3_hasLine_5 rfl (lv_at hl 1 rfl) ?_
    refine lv_if_eq (tgt := 16) hx hb dX3_hasLine_6 (by decide) (fun c2 => ?_) (fun c2 => ?_)
    · refine lv_aload_n hx hb dX3_hasLine_16 rfl (lv_at hl 0 rfl) ?_
      refine gf hX hB (cwG (i := i) hi) rfl in3 1 (by decide) wm_1_46 rfl rfl dX3_hasLine_17 ?_
      refine lv_icmp_ge (tgt := 27) hx hb dX3_hasLine_20 (by decide) (fun c3 => ?_) (fun c3 => ?_)
      · refine lv_iconst (v := 0) hx hb dX3_hasLine_27 (by decide) ?_
        rw [← hQ]
        exact end_i hX hB hA3 rfl rfl ⟨_, rfl, Or.inl rfl, rfl⟩ (Nat.le_of_ble_eq_true rfl) (Nat.le_of_ble_eq_true rfl) dX3_hasLine_28
      · refine lv_iconst (v := 1) hx hb dX3_hasLine_23 (by decide) ?_
        refine lv_goto (tgt := 28) hx hb dX3_hasLine_24 (by decide) ?_
        rw [← hQ]
        exact end_i hX hB hA3 rfl rfl ⟨_, rfl, Or.inr rfl, rfl⟩ (Nat.le_of_ble_eq_true rfl) (Nat.le_of_ble_eq_true rfl) dX3_hasLine_28
    · refine lv_aload_n hx hb dX3_hasLine_9 rfl (lv_at hl 0 rfl) ?_
      refine gf hX hB (cwG (i := i) hi) rfl in3 2 (by decide) wm_1_52 rfl rfl dX3_hasLine_10 ?_
      refine lv_goto (tgt := 20) hx hb dX3_hasLine_13 (by decide) ?_
      refine lv_icmp_ge (tgt := 27) hx hb dX3_hasLine_20 (by decide) (fun c4 => ?_) (fun c4 => ?_)
      · refine lv_iconst (v := 0) hx hb dX3_hasLine_27 (by decide) ?_
        rw [← hQ]
        exact end_i hX hB hA3 rfl rfl ⟨_, rfl, Or.inl rfl, rfl⟩ (Nat.le_of_ble_eq_true rfl) (Nat.le_of_ble_eq_true rfl) dX3_hasLine_28
      · refine lv_iconst (v := 1) hx hb dX3_hasLine_23 (by decide) ?_
        refine lv_goto (tgt := 28) hx hb dX3_hasLine_24 (by decide) ?_
        rw [← hQ]
        exact end_i hX hB hA3 rfl rfl ⟨_, rfl, Or.inr rfl, rfl⟩ (Nat.le_of_ble_eq_true rfl) (Nat.le_of_ble_eq_true rfl) dX3_hasLine_28
set_option maxHeartbeats 4000000 in
set_option maxRecDepth 100000 in
theorem k_X3_countFilled (κ : Kt) (l : Launch) (a : Nat → Nat) (r q : Nat → Int32) (f : Nat → Nat → Int64) (i : Nat) (hi : i < 15) : CM κ l yX3_countFilled cX3_countFilled 4 (some .int) 1 22 0 0 [.ref (a (6 + 2 * i))] (cw κ a r q f) (fun o w' => ∃ x : Int32, o = some (.int x) ∧ w' = cw κ a r q f) := by
  refine CM_begin (by decide) (Nat.le_of_ble_eq_true rfl) ?_
  intro p e s m args below meth c A Q hX hnm hA3 hQ hB ls hl
  have hx := hX.1.1
  have hb := hX.1.2.1
  have hl : lv_has ls 4 [(0, .ref (a (6 + 2 * i)))] := hl
  refine lv_iconst (v := 0) hx hb dX3_countFilled_0 (by decide) ?_
  refine lv_istore_n (lv' := [(1, .int 0), (0, .ref (a (6 + 2 * i)))]) hx hb dX3_countFilled_1 rfl hl (by decide) rfl (fun ls hl => ?_)
  refine lv_iconst (v := 0) hx hb dX3_countFilled_2 (by decide) ?_
  refine lv_istore_n (lv' := [(2, .int 0), (1, .int 0), (0, .ref (a (6 + 2 * i)))]) hx hb dX3_countFilled_3 rfl hl (by decide) rfl (fun ls hl => ?_)
  have lp4 : ∀ (nn : Nat) (y2_4 : Int32) (y1_4 : Int32) (H : Heap) (locs : List Loc), gap (r (2 * i)) y2_4 < nn → Bd κ A s (cw κ a r q f) H locs → ∀ ls : Array Slot, lv_has ls 4 [(2, .int y2_4), (1, .int y1_4), (0, .ref (a (6 + 2 * i)))] → W p l e (Rm 1 22 0 0) s m args below meth c H locs 0 0 Q (F0 m 4 ls []) := by
    intro nn
    induction nn with
    | zero => intro y2_4 y1_4 H locs hμ; exact absurd hμ (Nat.not_lt_zero _)
    | succ nn ih4 =>
      intro y2_4 y1_4 H locs hμ4 hB ls hl
      refine lv_iload_n hx hb dX3_countFilled_4 rfl (lv_at hl 0 rfl) ?_
      refine lv_aload_n hx hb dX3_countFilled_5 rfl (lv_at hl 2 rfl) ?_
      refine gf hX hB (cwG (i := i) hi) rfl in3 1 (by decide) wm_1_46 rfl rfl dX3_countFilled_6 ?_
      refine lv_icmp_ge (tgt := 48) hx hb dX3_countFilled_9 (by decide) (fun c21 => ?_) (fun c21 => ?_)
      · refine lv_iload_n hx hb dX3_countFilled_48 rfl (lv_at hl 1 rfl) ?_
        rw [← hQ]
        exact end_i hX hB hA3 rfl rfl ⟨_, rfl, rfl⟩ (Nat.le_of_ble_eq_true rfl) (Nat.le_of_ble_eq_true rfl) dX3_countFilled_49
      · refine lv_iconst (v := 0) hx hb dX3_countFilled_12 (by decide) ?_
        refine lv_istore_n (lv' := [(3, .int 0), (2, .int y2_4), (1, .int y1_4), (0, .ref (a (6 + 2 * i)))]) hx hb dX3_countFilled_13 rfl hl (by decide) rfl (fun ls hl => ?_)
        have lp14 : ∀ (nn : Nat) (y3_14 : Int32) (y1_14 : Int32) (H : Heap) (locs : List Loc), gap (r (2 * i + 1)) y3_14 < nn → Bd κ A s (cw κ a r q f) H locs → ∀ ls : Array Slot, lv_has ls 4 [(3, .int y3_14), (2, .int y2_4), (1, .int y1_14), (0, .ref (a (6 + 2 * i)))] → W p l e (Rm 1 22 0 0) s m args below meth c H locs 0 0 Q (F0 m 14 ls []) := by
          intro nn
          induction nn with
          | zero => intro y3_14 y1_14 H locs hμ; exact absurd hμ (Nat.not_lt_zero _)
          | succ nn ih14 =>
            intro y3_14 y1_14 H locs hμ14 hB ls hl
            refine lv_iload_n hx hb dX3_countFilled_14 rfl (lv_at hl 0 rfl) ?_
            refine lv_aload_n hx hb dX3_countFilled_15 rfl (lv_at hl 3 rfl) ?_
            refine gf hX hB (cwG (i := i) hi) rfl in3 2 (by decide) wm_1_52 rfl rfl dX3_countFilled_16 ?_
            refine lv_icmp_ge (tgt := 42) hx hb dX3_countFilled_19 (by decide) (fun c28 => ?_) (fun c28 => ?_)
            · refine lv_iinc (v := y2_4 + 1) (lv' := [(2, .int (y2_4 + 1)), (3, .int y3_14), (1, .int y1_14), (0, .ref (a (6 + 2 * i)))]) hx hb dX3_countFilled_42 hl (k := 1) rfl rfl (by decide) rfl (fun ls hl => ?_)
              refine lv_goto (tgt := 4) hx hb dX3_countFilled_45 (by decide) ?_
              exact ih4 (y2_4 + 1) y1_14 _ _  (gap_step c21 hμ4) hB _ (lv_sub hl [0, 2, 3] rfl)
            · refine lv_aload_n hx hb dX3_countFilled_22 rfl (lv_at hl 3 rfl) ?_
              refine lv_iload_n hx hb dX3_countFilled_23 rfl (lv_at hl 1 rfl) ?_
              refine lv_iload_n hx hb dX3_countFilled_24 rfl (lv_at hl 0 rfl) ?_
              refine call_V (n := 2) (As := [.int y2_4, .int y3_14]) (rest := []) hX hB (k_X3_get κ l a r q f i y2_4 y3_14 hi) ⟨rfl, by decide, by decide, by decide +kernel⟩ wm_2_7 wm_1_187 wm_1_188 wm_1_2 wm_1_189 ⟨Nat.le_of_ble_eq_true rfl, Nat.le_of_ble_eq_true rfl⟩ ⟨Nat.le_of_ble_eq_true rfl, Nat.le_of_ble_eq_true rfl⟩ (cwG (i := i) hi) rfl rfl rfl hl.1 rfl (Nat.le_of_ble_eq_true rfl) dX3_countFilled_25 (fun o w' H locs hp hB => ?_)
              obtain ⟨x29, rfl, rfl⟩ := hp
              refine W.eq (g2 := F0 m 28 ls [.long x29]) rfl ?_
              refine lv_lconst (v := 0) hx hb dX3_countFilled_28 (by decide) ?_
              refine W.lcmp hx hb dX3_countFilled_29 ?_
              refine lv_if_eq (tgt := 36) hx hb dX3_countFilled_30 (by decide) (fun c30 => ?_) (fun c30 => ?_)
              · refine lv_iinc (v := y3_14 + 1) (lv' := [(3, .int (y3_14 + 1)), (2, .int y2_4), (1, .int y1_14), (0, .ref (a (6 + 2 * i)))]) hx hb dX3_countFilled_36 hl (k := 0) rfl rfl (by decide) rfl (fun ls hl => ?_)
                refine lv_goto (tgt := 14) hx hb dX3_countFilled_39 (by decide) ?_
                exact ih14 (y3_14 + 1) y1_14 _ _  (gap_step c28 hμ14) hB _ hl
              · refine lv_iinc (v := y1_14 + 1) (lv' := [(1, .int (y1_14 + 1)), (3, .int y3_14), (2, .int y2_4), (0, .ref (a (6 + 2 * i)))]) hx hb dX3_countFilled_33 hl (k := 2) rfl rfl (by decide) rfl (fun ls hl => ?_)
                refine lv_iinc (v := y3_14 + 1) (lv' := [(3, .int (y3_14 + 1)), (1, .int (y1_14 + 1)), (2, .int y2_4), (0, .ref (a (6 + 2 * i)))]) hx hb dX3_countFilled_36 hl (k := 1) rfl rfl (by decide) rfl (fun ls hl => ?_)
                refine lv_goto (tgt := 14) hx hb dX3_countFilled_39 (by decide) ?_
                exact ih14 (y3_14 + 1) (y1_14 + 1) _ _  (gap_step c28 hμ14) hB _ (lv_sub hl [0, 2, 1, 3] rfl)
        exact lp14 _ 0 y1_4 _ _  (Nat.lt_succ_self _) hB _ hl
  exact lp4 _ 0 0 _ _  (Nat.lt_succ_self _) hB _ hl
