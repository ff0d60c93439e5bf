set_option maxHeartbeats 4000000 in
set_option maxRecDepth 100000 in
theorem k_X3_get (κ : Kt) (l : Launch) (a : Nat → Nat) (r q : Nat → Int32) (f : Nat → Nat → Int64) (i : Nat) (p0 : Int32) (p1 : Int32) (hi : i < 15) : CM κ l yX3_get cX3_get 3 (some .long) 0 0 0 0 [.ref (a (6 + 2 * i)), .int p0, .int p1] (cw κ a r q f) (fun o w' => ∃ x : Int64, o = some (.long x) ∧ w' = cw κ a r q f) := by
  refine CM_begin (plainFor_of_name (by decide)) (Nat.le_of_ble_eq_true rfl) ?_
  intro p e s m args below meth c A Q hX hnm hA3 hQ hB ls hl
  have hx := hX.1.1
  have hb := hX.1.2.1
  have hl : lv_has ls 3 [(0, .ref (a (6 + 2 * i))), (1, .int p0), (2, .int p1)] := hl
  refine lv_iload_n hx hb dX3_get_0 rfl (lv_at hl 1 rfl) ?_
  refine lv_if_lt (tgt := 18) hx hb dX3_get_1 (by decide) (fun c1 => ?_) (fun c1 => ?_)
  · refine lv_lconst (v := 0) hx hb dX3_get_18 (by decide) ?_
    rw [← hQ]
    exact end_l hX hB hA3 rfl ⟨_, rfl, rfl⟩ (Nat.le_of_ble_eq_true rfl) (Nat.le_of_ble_eq_true rfl) dX3_get_19
  · refine lv_iload_n hx hb dX3_get_4 rfl (lv_at hl 1 rfl) ?_
    refine lv_iconst (v := 4) hx hb dX3_get_5 (by decide) ?_
    refine lv_icmp_ge (tgt := 18) hx hb dX3_get_6 (by decide) (fun c2 => ?_) (fun c2 => ?_)
    · refine lv_lconst (v := 0) hx hb dX3_get_18 (by decide) ?_
      rw [← hQ]
      exact end_l hX hB hA3 rfl ⟨_, rfl, rfl⟩ (Nat.le_of_ble_eq_true rfl) (Nat.le_of_ble_eq_true rfl) dX3_get_19
    · refine lv_iload_n hx hb dX3_get_9 rfl (lv_at hl 2 rfl) ?_
      refine lv_if_lt (tgt := 18) hx hb dX3_get_10 (by decide) (fun c3 => ?_) (fun c3 => ?_)
      · refine lv_lconst (v := 0) hx hb dX3_get_18 (by decide) ?_
        rw [← hQ]
        exact end_l hX hB hA3 rfl ⟨_, rfl, rfl⟩ (Nat.le_of_ble_eq_true rfl) (Nat.le_of_ble_eq_true rfl) dX3_get_19
      · refine lv_iload_n hx hb dX3_get_13 rfl (lv_at hl 2 rfl) ?_
        refine lv_iconst (v := 5) hx hb dX3_get_14 (by decide) ?_
        refine lv_icmp_lt (tgt := 20) hx hb dX3_get_15 (by decide) (fun c4 => ?_) (fun c4 => ?_)
        · refine lv_aload_n hx hb dX3_get_20 rfl (lv_at hl 0 rfl) ?_
          refine gf hX hB (cwG (i := i) hi) rfl in3 0 (by decide) wm_1_45 rfl rfl dX3_get_21 ?_
          refine lv_iload_n hx hb dX3_get_24 rfl (lv_at hl 1 rfl) ?_
          refine lv_iconst (v := 5) hx hb dX3_get_25 (by decide) ?_
          refine lv_imul hx hb dX3_get_26 ?_
          refine lv_iload_n hx hb dX3_get_27 rfl (lv_at hl 2 rfl) ?_
          refine lv_iadd hx hb dX3_get_28 ?_
          refine lald hX hB (cwC (i := i) hi) (ix20 (by first | assumption | exact i32_not_le.mpr (by assumption)) (by first | assumption | exact i32_not_le.mpr (by assumption)) (by first | assumption | exact i32_not_le.mpr (by assumption)) (by first | assumption | exact i32_not_le.mpr (by assumption))) dX3_get_29 ?_
          refine lv_topl (fun g5 eg5 => ?_)
          rw [← hQ]
          exact end_l hX hB hA3 rfl ⟨_, rfl, rfl⟩ (Nat.le_of_ble_eq_true rfl) (Nat.le_of_ble_eq_true rfl) dX3_get_30
        · refine lv_lconst (v := 0) hx hb dX3_get_18 (by decide) ?_
          rw [← hQ]
          exact end_l hX hB hA3 rfl ⟨_, rfl, rfl⟩ (Nat.le_of_ble_eq_true rfl) (Nat.le_of_ble_eq_true rfl) dX3_get_19
set_option maxHeartbeats 4000000 in
set_option maxRecDepth 100000 in
theorem k_X3_set (κ : Kt) (l : Launch) (a : Nat → Nat) (r q : Nat → Int32) (f : Nat → Nat → Int64) (i : Nat) (p0 : Int32) (p1 : Int32) (x : Int64) (hi : i < 15) : CM κ l yX3_set cX3_set 5 (none) 0 0 0 0 [.ref (a (6 + 2 * i)), .int p0, .int p1, .long x] (cw κ a r q f) (fun o w' => ∃ f' : Nat → Nat → Int64, o = none ∧ w' = cw κ a r q f') := by
  refine CM_begin (plainFor_of_name (by decide)) (Nat.le_of_ble_eq_true rfl) ?_
  intro p e s m args below meth c A Q hX hnm hA3 hQ hB ls hl
  have hx := hX.1.1
  have hb := hX.1.2.1
  have hl : lv_has ls 5 [(0, .ref (a (6 + 2 * i))), (1, .int p0), (2, .int p1), (3, .long x)] := hl
  refine lv_iload_n hx hb dX3_set_0 rfl (lv_at hl 1 rfl) ?_
  refine lv_if_lt (tgt := 29) hx hb dX3_set_1 (by decide) (fun c1 => ?_) (fun c1 => ?_)
  · rw [← hQ]
    exact end_v hX hB hA3 rfl ⟨_, rfl, rfl⟩ (Nat.le_of_ble_eq_true rfl) (Nat.le_of_ble_eq_true rfl) dX3_set_29
  · refine lv_iload_n hx hb dX3_set_4 rfl (lv_at hl 1 rfl) ?_
    refine lv_iconst (v := 4) hx hb dX3_set_5 (by decide) ?_
    refine lv_icmp_ge (tgt := 29) hx hb dX3_set_6 (by decide) (fun c2 => ?_) (fun c2 => ?_)
    · rw [← hQ]
      exact end_v hX hB hA3 rfl ⟨_, rfl, rfl⟩ (Nat.le_of_ble_eq_true rfl) (Nat.le_of_ble_eq_true rfl) dX3_set_29
    · refine lv_iload_n hx hb dX3_set_9 rfl (lv_at hl 2 rfl) ?_
      refine lv_if_lt (tgt := 29) hx hb dX3_set_10 (by decide) (fun c3 => ?_) (fun c3 => ?_)
      · rw [← hQ]
        exact end_v hX hB hA3 rfl ⟨_, rfl, rfl⟩ (Nat.le_of_ble_eq_true rfl) (Nat.le_of_ble_eq_true rfl) dX3_set_29
      · refine lv_iload_n hx hb dX3_set_13 rfl (lv_at hl 2 rfl) ?_
        refine lv_iconst (v := 5) hx hb dX3_set_14 (by decide) ?_
        refine lv_icmp_ge (tgt := 29) hx hb dX3_set_15 (by decide) (fun c4 => ?_) (fun c4 => ?_)
        · rw [← hQ]
          exact end_v hX hB hA3 rfl ⟨_, rfl, rfl⟩ (Nat.le_of_ble_eq_true rfl) (Nat.le_of_ble_eq_true rfl) dX3_set_29
        · refine lv_aload_n hx hb dX3_set_18 rfl (lv_at hl 0 rfl) ?_
          refine gf hX hB (cwG (i := i) hi) rfl in3 0 (by decide) wm_1_45 rfl rfl dX3_set_19 ?_
          refine lv_iload_n hx hb dX3_set_22 rfl (lv_at hl 1 rfl) ?_
          refine lv_iconst (v := 5) hx hb dX3_set_23 (by decide) ?_
          refine lv_imul hx hb dX3_set_24 ?_
          refine lv_iload_n hx hb dX3_set_25 rfl (lv_at hl 2 rfl) ?_
          refine lv_iadd hx hb dX3_set_26 ?_
          refine lv_lload_n hx hb dX3_set_27 rfl (lv_at hl 3 rfl) ?_
          refine last hX hB (cwC (i := i) hi) (ix20 (by first | assumption | exact i32_not_le.mpr (by assumption)) (by first | assumption | exact i32_not_le.mpr (by assumption)) (by first | assumption | exact i32_not_le.mpr (by assumption)) (by first | assumption | exact i32_not_le.mpr (by assumption))) (cwSL (i := i) hi _) dX3_set_28 (fun H locs hB => ?_)
          rw [← hQ]
          exact end_v hX hB hA3 rfl ⟨_, rfl, rfl⟩ (Nat.le_of_ble_eq_true rfl) (Nat.le_of_ble_eq_true rfl) dX3_set_29
set_option maxHeartbeats 4000000 in
set_option maxRecDepth 100000 in
theorem k_X3_countLines (κ : Kt) (l : Launch) (a : Nat → Nat) (r q : Nat → Int32) (f : Nat → Nat → Int64) (i : Nat) (p0 : Int32) (hi : i < 15) : CM κ l yX3_countLines cX3_countLines 2 (some .int) 0 0 0 0 [.ref (a (6 + 2 * i)), .int p0] (cw κ a r q f) (fun o w' => ∃ x : Int32, o = some (.int x) ∧ w' = cw κ a r q f) := by
  refine CM_begin (plainFor_of_name (by decide)) (Nat.le_of_ble_eq_true rfl) ?_
  intro p e s m args below meth c A Q hX hnm hA3 hQ hB ls hl
  have hx := hX.1.1
  have hb := hX.1.2.1
  have hl : lv_has ls 2 [(0, .ref (a (6 + 2 * i))), (1, .int p0)] := hl
  refine lv_iload_n hx hb dX3_countLines_0 rfl (lv_at hl 1 rfl) ?_
  refine lv_if_eq (tgt := 11) hx hb dX3_countLines_1 (by decide) (fun c1 => ?_) (fun c1 => ?_)
  · refine lv_aload_n hx hb dX3_countLines_11 rfl (lv_at hl 0 rfl) ?_
    refine gf hX hB (cwG (i := i) hi) rfl in3 1 (by decide) wm_1_46 rfl rfl dX3_countLines_12 ?_
    rw [← hQ]
    exact end_i hX hB hA3 rfl rfl ⟨_, rfl, rfl⟩ (Nat.le_of_ble_eq_true rfl) (Nat.le_of_ble_eq_true rfl) dX3_countLines_15
  · refine lv_aload_n hx hb dX3_countLines_4 rfl (lv_at hl 0 rfl) ?_
    refine gf hX hB (cwG (i := i) hi) rfl in3 2 (by decide) wm_1_52 rfl rfl dX3_countLines_5 ?_
    refine lv_goto (tgt := 15) hx hb dX3_countLines_8 (by decide) ?_
    rw [← hQ]
    exact end_i hX hB hA3 rfl rfl ⟨_, rfl, rfl⟩ (Nat.le_of_ble_eq_true rfl) (Nat.le_of_ble_eq_true rfl) dX3_countLines_15
set_option maxHeartbeats 4000000 in
set_option maxRecDepth 100000 in
theorem k_X3_hasLine (κ : Kt) (l : Launch) (a : Nat → Nat) (r q : Nat → Int32) (f : Nat → Nat → Int64) (i : Nat) (p0 : Int32) (p1 : Int32) (hi : i < 15) : CM κ l yX3_hasLine cX3_hasLine 3 (some .boolean) 0 0 0 0 [.ref (a (6 + 2 * i)), .int p0, .int p1] (cw κ a r q f) (fun o w' => ∃ x : Int32, o = some (.int x) ∧ (x = 0 ∨ x = 1) ∧ w' = cw κ a r q f) := by
  refine CM_begin (plainFor_of_name (by decide)) (Nat.le_of_ble_eq_true rfl) ?_
  intro p e s m args below meth c A Q hX hnm hA3 hQ hB ls hl
  have hx := hX.1.1
  have hb := hX.1.2.1
  have hl : lv_has ls 3 [(0, .ref (a (6 + 2 * i))), (1, .int p0), (2, .int p1)] := hl
  refine lv_iload_n hx hb dX3_hasLine_0 rfl (lv_at hl 2 rfl) ?_
  refine lv_if_lt (tgt := 27) hx hb dX3_hasLine_1 (by decide) (fun c1 => ?_) (fun c1 => ?_)
  · refine lv_iconst (v := 0) hx hb dX3_hasLine_27 (by decide) ?_
    rw [← hQ]
    exact end_i hX hB hA3 rfl rfl ⟨_, rfl, Or.inl rfl, rfl⟩ (Nat.le_of_ble_eq_true rfl) (Nat.le_of_ble_eq_true rfl) dX3_hasLine_28
  · refine lv_iload_n hx hb dX3_hasLine_4 rfl (lv_at hl 2 rfl) ?_
    refine lv_iload_n hx hb dX3_hasLine_5 rfl (lv_at hl 1 rfl) ?_
    refine lv_if_eq (tgt := 16) hx hb dX3_hasLine_6 (by decide) (fun c2 => ?_) (fun c2 => ?_)
    · refine lv_aload_n hx hb dX3_hasLine_16 rfl (lv_at hl 0 rfl) ?_
      refine gf hX hB (cwG (i := i) hi) rfl in3 1 (by decide) wm_1_46 rfl rfl dX3_hasLine_17 ?_
      refine lv_icmp_ge (tgt := 27) hx hb dX3_hasLine_20 (by decide) (fun c3 => ?_) (fun c3 => ?_)
      · refine lv_iconst (v := 0) hx hb dX3_hasLine_27 (by decide) ?_
        rw [← hQ]
        exact end_i hX hB hA3 rfl rfl ⟨_, rfl, Or.inl rfl, rfl⟩ (Nat.le_of_ble_eq_true rfl) (Nat.le_of_ble_eq_true rfl) dX3_hasLine_28
      · refine lv_iconst (v := 1) hx hb dX3_hasLine_23 (by decide) ?_
        refine lv_goto (tgt := 28) hx hb dX3_hasLine_24 (by decide) ?_
        rw [← hQ]
        exact end_i hX hB hA3 rfl rfl ⟨_, rfl, Or.inr rfl, rfl⟩ (Nat.le_of_ble_eq_true rfl) (Nat.le_of_ble_eq_true rfl) dX3_hasLine_28
    · refine lv_aload_n hx hb dX3_hasLine_9 rfl (lv_at hl 0 rfl) ?_
      refine gf hX hB (cwG (i := i) hi) rfl in3 2 (by decide) wm_1_52 rfl rfl dX3_hasLine_10 ?_
      refine lv_goto (tgt := 20) hx hb dX3_hasLine_13 (by decide) ?_
      refine lv_icmp_ge (tgt := 27) hx hb dX3_hasLine_20 (by decide) (fun c4 => ?_) (fun c4 => ?_)
      · refine lv_iconst (v := 0) hx hb dX3_hasLine_27 (by decide) ?_
        rw [← hQ]
        exact end_i hX hB hA3 rfl rfl ⟨_, rfl, Or.inl rfl, rfl⟩ (Nat.le_of_ble_eq_true rfl) (Nat.le_of_ble_eq_true rfl) dX3_hasLine_28
      · refine lv_iconst (v := 1) hx hb dX3_hasLine_23 (by decide) ?_
        refine lv_goto (tgt := 28) hx hb dX3_hasLine_24 (by decide) ?_
        rw [← hQ]
        exact end_i hX hB hA3 rfl rfl ⟨_, rfl, Or.inr rfl, rfl⟩ (Nat.le_of_ble_eq_true rfl) (Nat.le_of_ble_eq_true rfl) dX3_hasLine_28
set_option maxHeartbeats 4000000 in
set_option maxRecDepth 100000 in
theorem k_X3_countFilled (κ : Kt) (l : Launch) (a : Nat → Nat) (r q : Nat → Int32) (f : Nat → Nat → Int64) (i : Nat) (hi : i < 15) : CM κ l yX3_countFilled cX3_countFilled 4 (some .int) 1 22 0 0 [.ref (a (6 + 2 * i))] (cw κ a r q f) (fun o w' => ∃ x : Int32, o = some (.int x) ∧ w' = cw κ a r q f) := by
  refine CM_begin (plainFor_of_name (by decide)) (Nat.le_of_ble_eq_true rfl) ?_
  intro p e s m args below meth c A Q hX hnm hA3 hQ hB ls hl
  have hx := hX.1.1
  have hb := hX.1.2.1
  have hl : lv_has ls 4 [(0, .ref (a (6 + 2 * i)))] := hl
  refine lv_iconst (v := 0) hx hb dX3_countFilled_0 (by decide) ?_
  refine lv_istore_n (lv' := [(1, .int 0), (0, .ref (a (6 + 2 * i)))]) hx hb dX3_countFilled_1 rfl hl (by decide) rfl (fun ls hl => ?_)
  refine lv_iconst (v := 0) hx hb dX3_countFilled_2 (by decide) ?_
  refine lv_istore_n (lv' := [(2, .int 0), (1, .int 0), (0, .ref (a (6 + 2 * i)))]) hx hb dX3_countFilled_3 rfl hl (by decide) rfl (fun ls hl => ?_)
  have lp4 : ∀ (nn : Nat) (y2_4 : Int32) (y1_4 : Int32) (H : Heap) (locs : List Loc), gap (r (2 * i)) y2_4 < nn → Bd κ A s (cw κ a r q f) H locs → ∀ ls : Array Slot, lv_has ls 4 [(2, .int y2_4), (1, .int y1_4), (0, .ref (a (6 + 2 * i)))] → W p l e (Rm 1 22 0 0) s m args below meth c H locs 0 0 Q (F0 m 4 ls []) := by
    intro nn
    induction nn with
    | zero => intro y2_4 y1_4 H locs hμ; exact absurd hμ (Nat.not_lt_zero _)
    | succ nn ih4 =>
      intro y2_4 y1_4 H locs hμ4 hB ls hl
      refine lv_iload_n hx hb dX3_countFilled_4 rfl (lv_at hl 0 rfl) ?_
      refine lv_aload_n hx hb dX3_countFilled_5 rfl (lv_at hl 2 rfl) ?_
      refine gf hX hB (cwG (i := i) hi) rfl in3 1 (by decide) wm_1_46 rfl rfl dX3_countFilled_6 ?_
      refine lv_icmp_ge (tgt := 48) hx hb dX3_countFilled_9 (by decide) (fun c21 => ?_) (fun c21 => ?_)
      · refine lv_iload_n hx hb dX3_countFilled_48 rfl (lv_at hl 1 rfl) ?_
        rw [← hQ]
        exact end_i hX hB hA3 rfl rfl ⟨_, rfl, rfl⟩ (Nat.le_of_ble_eq_true rfl) (Nat.le_of_ble_eq_true rfl) dX3_countFilled_49
      · refine lv_iconst (v := 0) hx hb dX3_countFilled_12 (by decide) ?_
        refine lv_istore_n (lv' := [(3, .int 0), (2, .int y2_4), (1, .int y1_4), (0, .ref (a (6 + 2 * i)))]) hx hb dX3_countFilled_13 rfl hl (by decide) rfl (fun ls hl => ?_)
        have lp14 : ∀ (nn : Nat) (y3_14 : Int32) (y1_14 : Int32) (H : Heap) (locs : List Loc), gap (r (2 * i + 1)) y3_14 < nn → Bd κ A s (cw κ a r q f) H locs → ∀ ls : Array Slot, lv_has ls 4 [(3, .int y3_14), (2, .int y2_4), (1, .int y1_14), (0, .ref (a (6 + 2 * i)))] → W p l e (Rm 1 22 0 0) s m args below meth c H locs 0 0 Q (F0 m 14 ls []) := by
          intro nn
          induction nn with
          | zero => intro y3_14 y1_14 H locs hμ; exact absurd hμ (Nat.not_lt_zero _)
          | succ nn ih14 =>
            intro y3_14 y1_14 H locs hμ14 hB ls hl
            refine lv_iload_n hx hb dX3_countFilled_14 rfl (lv_at hl 0 rfl) ?_
            refine lv_aload_n hx hb dX3_countFilled_15 rfl (lv_at hl 3 rfl) ?_
            refine gf hX hB (cwG (i := i) hi) rfl in3 2 (by decide) wm_1_52 rfl rfl dX3_countFilled_16 ?_
            refine lv_icmp_ge (tgt := 42) hx hb dX3_countFilled_19 (by decide) (fun c28 => ?_) (fun c28 => ?_)
            · refine lv_iinc (v := y2_4 + 1) (lv' := [(2, .int (y2_4 + 1)), (3, .int y3_14), (1, .int y1_14), (0, .ref (a (6 + 2 * i)))]) hx hb dX3_countFilled_42 hl (k := 1) rfl rfl (by decide) rfl (fun ls hl => ?_)
              refine lv_goto (tgt := 4) hx hb dX3_countFilled_45 (by decide) ?_
              exact ih4 (y2_4 + 1) y1_14 _ _  (gap_step c21 hμ4) hB _ (lv_sub hl [0, 2, 3] rfl)
            · refine lv_aload_n hx hb dX3_countFilled_22 rfl (lv_at hl 3 rfl) ?_
              refine lv_iload_n hx hb dX3_countFilled_23 rfl (lv_at hl 1 rfl) ?_
              refine lv_iload_n hx hb dX3_countFilled_24 rfl (lv_at hl 0 rfl) ?_
              refine call_V (n := 2) (As := [.int y2_4, .int y3_14]) (rest := []) hX hB (k_X3_get κ l a r q f i y2_4 y3_14 hi) ⟨rfl, by decide, by decide, by decide +kernel⟩ wm_2_7 wm_1_187 wm_1_188 wm_1_2 wm_1_189 ⟨Nat.le_of_ble_eq_true rfl, Nat.le_of_ble_eq_true rfl⟩ ⟨Nat.le_of_ble_eq_true rfl, Nat.le_of_ble_eq_true rfl⟩ (cwG (i := i) hi) rfl rfl rfl hl.1 rfl (Nat.le_of_ble_eq_true rfl) dX3_countFilled_25 (fun o w' H locs hp hB => ?_)
              obtain ⟨x29, rfl, rfl⟩ := hp
              refine W.eq (g2 := F0 m 28 ls [.long x29]) rfl ?_
              refine lv_lconst (v := 0) hx hb dX3_countFilled_28 (by decide) ?_
              refine W.lcmp hx hb dX3_countFilled_29 ?_
              refine lv_if_eq (tgt := 36) hx hb dX3_countFilled_30 (by decide) (fun c30 => ?_) (fun c30 => ?_)
              · refine lv_iinc (v := y3_14 + 1) (lv' := [(3, .int (y3_14 + 1)), (2, .int y2_4), (1, .int y1_14), (0, .ref (a (6 + 2 * i)))]) hx hb dX3_countFilled_36 hl (k := 0) rfl rfl (by decide) rfl (fun ls hl => ?_)
                refine lv_goto (tgt := 14) hx hb dX3_countFilled_39 (by decide) ?_
                exact ih14 (y3_14 + 1) y1_14 _ _  (gap_step c28 hμ14) hB _ hl
              · refine lv_iinc (v := y1_14 + 1) (lv' := [(1, .int (y1_14 + 1)), (3, .int y3_14), (2, .int y2_4), (0, .ref (a (6 + 2 * i)))]) hx hb dX3_countFilled_33 hl (k := 2) rfl rfl (by decide) rfl (fun ls hl => ?_)
                refine lv_iinc (v := y3_14 + 1) (lv' := [(3, .int (y3_14 + 1)), (1, .int (y1_14 + 1)), (2, .int y2_4), (0, .ref (a (6 + 2 * i)))]) hx hb dX3_countFilled_36 hl (k := 1) rfl rfl (by decide) rfl (fun ls hl => ?_)
                refine lv_goto (tgt := 14) hx hb dX3_countFilled_39 (by decide) ?_
                exact ih14 (y3_14 + 1) (y1_14 + 1) _ _  (gap_step c28 hμ14) hB _ (lv_sub hl [0, 2, 1, 3] rfl)
        exact lp14 _ 0 y1_4 _ _  (Nat.lt_succ_self _) hB _ hl
  exact lp4 _ 0 0 _ _  (Nat.lt_succ_self _) hB _ hl
set_option maxHeartbeats 4000000 in
set_option maxRecDepth 100000 in
theorem k_X3_reshape (κ : Kt) (l : Launch) (a : Nat → Nat) (r q : Nat → Int32) (f : Nat → Nat → Int64) (i : Nat) (p0 : Int32) (p1 : Int32) (hi : i < 15) : CM κ l yX3_reshape cX3_reshape 4 (none) 1 21 0 0 [.ref (a (6 + 2 * i)), .int p0, .int p1] (cw κ a r q f) (fun o w' => ∃ (r' q' : Nat → Int32) (f' : Nat → Nat → Int64), o = none ∧ (okr r → okr r') ∧ q' 4 = q 4 ∧ w' = cw κ a r' q' f') := by
  refine CM_begin (plainFor_of_name (by decide)) (Nat.le_of_ble_eq_true rfl) ?_
  intro p e s m args below meth c A Q hX hnm hA3 hQ hB ls hl
  have hx := hX.1.1
  have hb := hX.1.2.1
  have hl : lv_has ls 4 [(0, .ref (a (6 + 2 * i))), (1, .int p0), (2, .int p1)] := hl
  refine lv_aload_n hx hb dX3_reshape_0 rfl (lv_at hl 0 rfl) ?_
  refine lv_iconst (v := 1) hx hb dX3_reshape_1 (by decide) ?_
  refine lv_iload_n hx hb dX3_reshape_2 rfl (lv_at hl 1 rfl) ?_
  refine lv_iconst (v := 4) hx hb dX3_reshape_3 (by decide) ?_
  refine va_mmin hx hb (by rw [hX.1.2.2.1]; exact hl.1.symm) hX.1.2.2.2.1 (hX.1.2.2.2.2 _ wm_1_216) (hX.1.2.2.2.2 _ wm_1_217) (hX.1.2.2.2.2 _ wm_1_14) (hX.1.2.2.2.2 _ wm_1_218) (Nat.le_of_ble_eq_true rfl) (Nat.le_of_ble_eq_true rfl) (Nat.le_of_ble_eq_true rfl) (Nat.le_of_ble_eq_true rfl) dX3_reshape_4 ?_
  refine lv_topi (fun t1 et1 => ?_)
  refine va_mmax hx hb (by rw [hX.1.2.2.1]; exact hl.1.symm) hX.1.2.2.2.1 (hX.1.2.2.2.2 _ wm_1_219) (hX.1.2.2.2.2 _ wm_1_220) (hX.1.2.2.2.2 _ wm_1_14) (hX.1.2.2.2.2 _ wm_1_221) (Nat.le_of_ble_eq_true rfl) (Nat.le_of_ble_eq_true rfl) (Nat.le_of_ble_eq_true rfl) (Nat.le_of_ble_eq_true rfl) dX3_reshape_7 ?_
  refine lv_topi (fun t2 et2 => ?_)
  refine pf (ty := .int) hX hB (cwG (i := i) hi) rfl in3 tyX3_ok nmX3 1 (by decide) wm_1_46 rfl rfl rfl rfl rfl (Nat.le_of_ble_eq_true rfl) (cwSR (i := i) hi _) dX3_reshape_10 (fun H locs hB => ?_)
  refine lv_aload_n hx hb dX3_reshape_13 rfl (lv_at hl 0 rfl) ?_
  refine lv_iconst (v := 1) hx hb dX3_reshape_14 (by decide) ?_
  refine lv_iload_n hx hb dX3_reshape_15 rfl (lv_at hl 2 rfl) ?_
  refine lv_iconst (v := 5) hx hb dX3_reshape_16 (by decide) ?_
  refine va_mmin hx hb (by rw [hX.1.2.2.1]; exact hl.1.symm) hX.1.2.2.2.1 (hX.1.2.2.2.2 _ wm_1_216) (hX.1.2.2.2.2 _ wm_1_217) (hX.1.2.2.2.2 _ wm_1_14) (hX.1.2.2.2.2 _ wm_1_218) (Nat.le_of_ble_eq_true rfl) (Nat.le_of_ble_eq_true rfl) (Nat.le_of_ble_eq_true rfl) (Nat.le_of_ble_eq_true rfl) dX3_reshape_17 ?_
  refine lv_topi (fun t3 et3 => ?_)
  refine va_mmax hx hb (by rw [hX.1.2.2.1]; exact hl.1.symm) hX.1.2.2.2.1 (hX.1.2.2.2.2 _ wm_1_219) (hX.1.2.2.2.2 _ wm_1_220) (hX.1.2.2.2.2 _ wm_1_14) (hX.1.2.2.2.2 _ wm_1_221) (Nat.le_of_ble_eq_true rfl) (Nat.le_of_ble_eq_true rfl) (Nat.le_of_ble_eq_true rfl) (Nat.le_of_ble_eq_true rfl) dX3_reshape_20 ?_
  refine lv_topi (fun t4 et4 => ?_)
  refine pf (ty := .int) hX hB (cwG (i := i) hi) rfl in3 tyX3_ok nmX3 2 (by decide) wm_1_52 rfl rfl rfl rfl rfl (Nat.le_of_ble_eq_true rfl) (cwSC (i := i) hi _) dX3_reshape_23 (fun H locs hB => ?_)
  refine lv_iconst (v := 0) hx hb dX3_reshape_26 (by decide) ?_
  refine lv_istore_n (lv' := [(3, .int 0), (0, .ref (a (6 + 2 * i))), (1, .int p0), (2, .int p1)]) hx hb dX3_reshape_27 rfl hl (by decide) rfl (fun ls hl => ?_)
  have lp28 : ∀ (nn : Nat) (y3_28 : Int32) (f_28 : Nat → Nat → Int64) (H : Heap) (locs : List Loc), 0 ≤ y3_28 → gap 20 y3_28 < nn → Bd κ A s (cw κ a (va_up (va_up r (2 * i) t2) (2 * i + 1) t4) q f_28) H locs → ∀ ls : Array Slot, lv_has ls 4 [(3, .int y3_28), (0, .ref (a (6 + 2 * i))), (1, .int p0), (2, .int p1)] → W p l e (Rm 1 21 0 0) s m args below meth c H locs 0 0 Q (F0 m 28 ls []) := by
    intro nn
    induction nn with
    | zero => intro y3_28 f_28 H locs hn3_28 hμ; exact absurd hμ (Nat.not_lt_zero _)
    | succ nn ih28 =>
      intro y3_28 f_28 H locs hn3_28 hμ28 hB ls hl
      refine lv_iload_n hx hb dX3_reshape_28 rfl (lv_at hl 0 rfl) ?_
      refine lv_aload_n hx hb dX3_reshape_29 rfl (lv_at hl 1 rfl) ?_
      refine gf hX hB (cwG (i := i) hi) rfl in3 0 (by decide) wm_1_45 rfl rfl dX3_reshape_30 ?_
      refine alenL (v := 20) hX hB (cwC (i := i) hi) rfl dX3_reshape_33 ?_
      refine lv_icmp_ge (tgt := 50) hx hb dX3_reshape_34 (by decide) (fun c7 => ?_) (fun c7 => ?_)
      · rw [← hQ]
        exact end_v hX hB hA3 rfl ⟨_, _, _, rfl, (fun h => okr_set (clampI (by decide) et1 et2) (clampI (by decide) et3 et4) h), rfl, rfl⟩ (Nat.le_of_ble_eq_true rfl) (Nat.le_of_ble_eq_true rfl) dX3_reshape_50
      · refine lv_aload_n hx hb dX3_reshape_37 rfl (lv_at hl 1 rfl) ?_
        refine gf hX hB (cwG (i := i) hi) rfl in3 0 (by decide) wm_1_45 rfl rfl dX3_reshape_38 ?_
        refine lv_iload_n hx hb dX3_reshape_41 rfl (lv_at hl 0 rfl) ?_
        refine lv_lconst (v := 0) hx hb dX3_reshape_42 (by decide) ?_
        refine last hX hB (cwC (i := i) hi) (in_of (N := 20) rfl hn3_28 c7) (cwSL (i := i) hi _) dX3_reshape_43 (fun H locs hB => ?_)
        refine lv_iinc (v := y3_28 + 1) (lv' := [(3, .int (y3_28 + 1)), (0, .ref (a (6 + 2 * i))), (1, .int p0), (2, .int p1)]) hx hb dX3_reshape_44 hl (k := 0) rfl rfl (by decide) rfl (fun ls hl => ?_)
        refine lv_goto (tgt := 28) hx hb dX3_reshape_47 (by decide) ?_
        exact ih28 (y3_28 + 1) (va_up f_28 i (vp_updL (f_28 i) (y3_28).toNatClampNeg 0)) _ _ (nn_step hn3_28 c7) (gap_step c7 hμ28) hB _ hl
  exact lp28 _ 0 f _ _ (by decide) (Nat.lt_succ_self _) hB _ hl
set_option maxHeartbeats 4000000 in
set_option maxRecDepth 100000 in
theorem k_X3_becomeUnit (κ : Kt) (l : Launch) (a : Nat → Nat) (r q : Nat → Int32) (f : Nat → Nat → Int64) (i : Nat) (p0 : Int32) (hi : i < 15) : CM κ l yX3_becomeUnit cX3_becomeUnit 3 (none) 2 44 0 0 [.ref (a (6 + 2 * i)), .int p0] (cw κ a r q f) (fun o w' => ∃ (r' q' : Nat → Int32) (f' : Nat → Nat → Int64), o = none ∧ (okr r → okr r') ∧ q' 4 = q 4 ∧ w' = cw κ a r' q' f') := by
  refine CM_begin (plainFor_of_name (by decide)) (Nat.le_of_ble_eq_true rfl) ?_
  intro p e s m args below meth c A Q hX hnm hA3 hQ hB ls hl
  have hx := hX.1.1
  have hb := hX.1.2.1
  have hl : lv_has ls 3 [(0, .ref (a (6 + 2 * i))), (1, .int p0)] := hl
  refine lv_aload_n hx hb dX3_becomeUnit_0 rfl (lv_at hl 0 rfl) ?_
  refine lv_iload_n hx hb dX3_becomeUnit_1 rfl (lv_at hl 1 rfl) ?_
  refine lv_iload_n hx hb dX3_becomeUnit_2 rfl (lv_at hl 1 rfl) ?_
  refine call_V (n := 2) (As := [.int p0, .int p0]) (rest := []) hX hB (k_X3_reshape κ l a r q f i p0 p0 hi) ⟨rfl, by decide, by decide, by decide +kernel⟩ wm_1_212 wm_1_213 wm_1_214 wm_1_2 wm_1_215 ⟨Nat.le_of_ble_eq_true rfl, Nat.le_of_ble_eq_true rfl⟩ ⟨Nat.le_of_ble_eq_true rfl, Nat.le_of_ble_eq_true rfl⟩ (cwG (i := i) hi) rfl rfl rfl hl.1 rfl (Nat.le_of_ble_eq_true rfl) dX3_becomeUnit_3 (fun o w' H locs hp hB => ?_)
  obtain ⟨r1, q3, f5, rfl, ho2, hq4, rfl⟩ := hp
  refine W.eq (g2 := F0 m 6 ls []) rfl ?_
  refine lv_iconst (v := 0) hx hb dX3_becomeUnit_6 (by decide) ?_
  refine lv_istore_n (lv' := [(2, .int 0), (0, .ref (a (6 + 2 * i))), (1, .int p0)]) hx hb dX3_becomeUnit_7 rfl hl (by decide) rfl (fun ls hl => ?_)
  have lp8 : ∀ (nn : Nat) (y2_8 : Int32) (f_8 : Nat → Nat → Int64) (H : Heap) (locs : List Loc), gap (r1 (2 * i)) y2_8 < nn → Bd κ A s (cw κ a r1 q3 f_8) H locs → ∀ ls : Array Slot, lv_has ls 3 [(2, .int y2_8), (0, .ref (a (6 + 2 * i))), (1, .int p0)] → W p l e (Rm 2 44 0 0) s m args below meth c H locs 0 0 Q (F0 m 8 ls []) := by
    intro nn
    induction nn with
    | zero => intro y2_8 f_8 H locs hμ; exact absurd hμ (Nat.not_lt_zero _)
    | succ nn ih8 =>
      intro y2_8 f_8 H locs hμ8 hB ls hl
      refine lv_iload_n hx hb dX3_becomeUnit_8 rfl (lv_at hl 0 rfl) ?_
      refine lv_aload_n hx hb dX3_becomeUnit_9 rfl (lv_at hl 1 rfl) ?_
      refine gf hX hB (cwG (i := i) hi) rfl in3 1 (by decide) wm_1_46 rfl rfl dX3_becomeUnit_10 ?_
      refine lv_icmp_ge (tgt := 29) hx hb dX3_becomeUnit_13 (by decide) (fun c10 => ?_) (fun c10 => ?_)
      · rw [← hQ]
        exact end_v hX hB hA3 rfl ⟨_, _, _, rfl, (fun h => ho2 ((fun h => h) h)), (hq4.trans rfl), rfl⟩ (Nat.le_of_ble_eq_true rfl) (Nat.le_of_ble_eq_true rfl) dX3_becomeUnit_29
      · refine lv_aload_n hx hb dX3_becomeUnit_16 rfl (lv_at hl 1 rfl) ?_
        refine lv_iload_n hx hb dX3_becomeUnit_17 rfl (lv_at hl 0 rfl) ?_
        refine lv_iload_n hx hb dX3_becomeUnit_18 rfl (lv_at hl 0 rfl) ?_
        refine lv_lconst (v := 1) hx hb dX3_becomeUnit_19 (by decide) ?_
        refine call_V (n := 3) (As := [.int y2_8, .int y2_8, .long 1]) (rest := []) hX hB (k_X3_set κ l a r1 q3 f_8 i y2_8 y2_8 1 hi) ⟨rfl, by decide, by decide, by decide +kernel⟩ wm_1_222 wm_1_223 wm_1_224 wm_1_2 wm_1_225 ⟨Nat.le_of_ble_eq_true rfl, Nat.le_of_ble_eq_true rfl⟩ ⟨Nat.le_of_ble_eq_true rfl, Nat.le_of_ble_eq_true rfl⟩ (cwG (i := i) hi) rfl rfl rfl hl.1 rfl (Nat.le_of_ble_eq_true rfl) dX3_becomeUnit_20 (fun o w' H locs hp hB => ?_)
        obtain ⟨f11, rfl, rfl⟩ := hp
        refine W.eq (g2 := F0 m 23 ls []) rfl ?_
        refine lv_iinc (v := y2_8 + 1) (lv' := [(2, .int (y2_8 + 1)), (0, .ref (a (6 + 2 * i))), (1, .int p0)]) hx hb dX3_becomeUnit_23 hl (k := 0) rfl rfl (by decide) rfl (fun ls hl => ?_)
        refine lv_goto (tgt := 8) hx hb dX3_becomeUnit_26 (by decide) ?_
        exact ih8 (y2_8 + 1) f11 _ _  (gap_step c10 hμ8) hB _ hl
  exact lp8 _ 0 f5 _ _  (Nat.lt_succ_self _) hB _ hl
set_option maxHeartbeats 4000000 in
set_option maxRecDepth 100000 in
theorem k_X3_becomeLike (κ : Kt) (l : Launch) (a : Nat → Nat) (r q : Nat → Int32) (f : Nat → Nat → Int64) (i : Nat) (j : Nat) (hi : i < 15) (hj : j < 15) : CM κ l yX3_becomeLike cX3_becomeLike 3 (none) 0 0 0 0 [.ref (a (6 + 2 * i)), .ref (a (6 + 2 * j))] (cw κ a r q f) (fun o w' => ∃ (r' q' : Nat → Int32) (f' : Nat → Nat → Int64), o = none ∧ (okr r → okr r') ∧ q' 4 = q 4 ∧ w' = cw κ a r' q' f') := by
  refine CM_begin (plainFor_of_name (by decide)) (Nat.le_of_ble_eq_true rfl) ?_
  intro p e s m args below meth c A Q hX hnm hA3 hQ hB ls hl
  have hx := hX.1.1
  have hb := hX.1.2.1
  have hl : lv_has ls 3 [(0, .ref (a (6 + 2 * i))), (1, .ref (a (6 + 2 * j)))] := hl
  refine lv_aload_n hx hb dX3_becomeLike_0 rfl (lv_at hl 0 rfl) ?_
  refine lv_aload_n hx hb dX3_becomeLike_1 rfl (lv_at hl 1 rfl) ?_
  refine gf hX hB (cwG (i := j) hj) rfl in3 1 (by decide) wm_1_46 rfl rfl dX3_becomeLike_2 ?_
  refine pf (ty := .int) hX hB (cwG (i := i) hi) rfl in3 tyX3_ok nmX3 1 (by decide) wm_1_46 rfl rfl rfl rfl rfl (Nat.le_of_ble_eq_true rfl) (cwSR (i := i) hi _) dX3_becomeLike_5 (fun H locs hB => ?_)
  refine lv_aload_n hx hb dX3_becomeLike_8 rfl (lv_at hl 0 rfl) ?_
  refine lv_aload_n hx hb dX3_becomeLike_9 rfl (lv_at hl 1 rfl) ?_
  refine gf hX hB (cwG (i := j) hj) rfl in3 2 (by decide) wm_1_52 rfl rfl dX3_becomeLike_10 ?_
  refine pf (ty := .int) hX hB (cwG (i := i) hi) rfl in3 tyX3_ok nmX3 2 (by decide) wm_1_52 rfl rfl rfl rfl rfl (Nat.le_of_ble_eq_true rfl) (cwSC (i := i) hi _) dX3_becomeLike_13 (fun H locs hB => ?_)
  refine lv_iconst (v := 0) hx hb dX3_becomeLike_16 (by decide) ?_
  refine lv_istore_n (lv' := [(2, .int 0), (0, .ref (a (6 + 2 * i))), (1, .ref (a (6 + 2 * j)))]) hx hb dX3_becomeLike_17 rfl hl (by decide) rfl (fun ls hl => ?_)
  have lp18 : ∀ (nn : Nat) (y2_18 : Int32) (f_18 : Nat → Nat → Int64) (H : Heap) (locs : List Loc), 0 ≤ y2_18 → gap 20 y2_18 < nn → Bd κ A s (cw κ a (va_up (va_up r (2 * i) (r (2 * j))) (2 * i + 1) (va_up r (2 * i) (r (2 * j)) (2 * j + 1))) q f_18) H locs → ∀ ls : Array Slot, lv_has ls 3 [(2, .int y2_18), (0, .ref (a (6 + 2 * i))), (1, .ref (a (6 + 2 * j)))] → W p l e (Rm 0 0 0 0) s m args below meth c H locs 0 0 Q (F0 m 18 ls []) := by
    intro nn
    induction nn with
    | zero => intro y2_18 f_18 H locs hn2_18 hμ; exact absurd hμ (Nat.not_lt_zero _)
    | succ nn ih18 =>
      intro y2_18 f_18 H locs hn2_18 hμ18 hB ls hl
      refine lv_iload_n hx hb dX3_becomeLike_18 rfl (lv_at hl 0 rfl) ?_
      refine lv_aload_n hx hb dX3_becomeLike_19 rfl (lv_at hl 1 rfl) ?_
      refine gf hX hB (cwG (i := i) hi) rfl in3 0 (by decide) wm_1_45 rfl rfl dX3_becomeLike_20 ?_
      refine alenL (v := 20) hX hB (cwC (i := i) hi) rfl dX3_becomeLike_23 ?_
      refine lv_icmp_ge (tgt := 54) hx hb dX3_becomeLike_24 (by decide) (fun c7 => ?_) (fun c7 => ?_)
      · rw [← hQ]
        exact end_v hX hB hA3 rfl ⟨_, _, _, rfl, (fun h => okr_like hj h), rfl, rfl⟩ (Nat.le_of_ble_eq_true rfl) (Nat.le_of_ble_eq_true rfl) dX3_becomeLike_54
      · refine lv_iload_n hx hb dX3_becomeLike_27 rfl (lv_at hl 0 rfl) ?_
        refine lv_aload_n hx hb dX3_becomeLike_28 rfl (lv_at hl 2 rfl) ?_
        refine gf hX hB (cwG (i := j) hj) rfl in3 0 (by decide) wm_1_45 rfl rfl dX3_becomeLike_29 ?_
        refine alenL (v := 20) hX hB (cwC (i := j) hj) rfl dX3_becomeLike_32 ?_
        refine lv_icmp_ge (tgt := 54) hx hb dX3_becomeLike_33 (by decide) (fun c8 => ?_) (fun c8 => ?_)
        · rw [← hQ]
          exact end_v hX hB hA3 rfl ⟨_, _, _, rfl, (fun h => okr_like hj h), rfl, rfl⟩ (Nat.le_of_ble_eq_true rfl) (Nat.le_of_ble_eq_true rfl) dX3_becomeLike_54
        · refine lv_aload_n hx hb dX3_becomeLike_36 rfl (lv_at hl 1 rfl) ?_
          refine gf hX hB (cwG (i := i) hi) rfl in3 0 (by decide) wm_1_45 rfl rfl dX3_becomeLike_37 ?_
          refine lv_iload_n hx hb dX3_becomeLike_40 rfl (lv_at hl 0 rfl) ?_
          refine lv_aload_n hx hb dX3_becomeLike_41 rfl (lv_at hl 2 rfl) ?_
          refine gf hX hB (cwG (i := j) hj) rfl in3 0 (by decide) wm_1_45 rfl rfl dX3_becomeLike_42 ?_
          refine lv_iload_n hx hb dX3_becomeLike_45 rfl (lv_at hl 0 rfl) ?_
          refine lald hX hB (cwC (i := j) hj) (in_of (N := 20) rfl hn2_18 c7) dX3_becomeLike_46 ?_
          refine lv_topl (fun g9 eg9 => ?_)
          refine last hX hB (cwC (i := i) hi) (in_of (N := 20) rfl hn2_18 c7) (cwSL (i := i) hi _) dX3_becomeLike_47 (fun H locs hB => ?_)
          refine lv_iinc (v := y2_18 + 1) (lv' := [(2, .int (y2_18 + 1)), (0, .ref (a (6 + 2 * i))), (1, .ref (a (6 + 2 * j)))]) hx hb dX3_becomeLike_48 hl (k := 0) rfl rfl (by decide) rfl (fun ls hl => ?_)
          refine lv_goto (tgt := 18) hx hb dX3_becomeLike_51 (by decide) ?_
          exact ih18 (y2_18 + 1) (va_up f_18 i (vp_updL (f_18 i) (y2_18).toNatClampNeg g9)) _ _ (nn_step hn2_18 c7) (gap_step c7 hμ18) hB _ hl
  exact lp18 _ 0 f _ _ (by decide) (Nat.lt_succ_self _) hB _ hl
set_option maxHeartbeats 4000000 in
set_option maxRecDepth 100000 in
theorem k_X3_takeOver (κ : Kt) (l : Launch) (a : Nat → Nat) (r q : Nat → Int32) (f : Nat → Nat → Int64) (i : Nat) (j : Nat) (hi : i < 15) (hj : j < 15) : CM κ l yX3_takeOver cX3_takeOver 4 (none) 1 24 0 0 [.ref (a (6 + 2 * i)), .ref (a (6 + 2 * j))] (cw κ a r q f) (fun o w' => ∃ f' : Nat → Nat → Int64, o = none ∧ w' = cw κ a r q f') := by
  refine CM_begin (plainFor_of_name (by decide)) (Nat.le_of_ble_eq_true rfl) ?_
  intro p e s m args below meth c A Q hX hnm hA3 hQ hB ls hl
  have hx := hX.1.1
  have hb := hX.1.2.1
  have hl : lv_has ls 4 [(0, .ref (a (6 + 2 * i))), (1, .ref (a (6 + 2 * j)))] := hl
  refine lv_iconst (v := 0) hx hb dX3_takeOver_0 (by decide) ?_
  refine lv_istore_n (lv' := [(2, .int 0), (0, .ref (a (6 + 2 * i))), (1, .ref (a (6 + 2 * j)))]) hx hb dX3_takeOver_1 rfl hl (by decide) rfl (fun ls hl => ?_)
  have lp2 : ∀ (nn : Nat) (y2_2 : Int32) (f_2 : Nat → Nat → Int64) (H : Heap) (locs : List Loc), gap (r (2 * i)) y2_2 < nn → Bd κ A s (cw κ a r q f_2) H locs → ∀ ls : Array Slot, lv_has ls 4 [(2, .int y2_2), (0, .ref (a (6 + 2 * i))), (1, .ref (a (6 + 2 * j)))] → W p l e (Rm 1 24 0 0) s m args below meth c H locs 0 0 Q (F0 m 2 ls []) := by
    intro nn
    induction nn with
    | zero => intro y2_2 f_2 H locs hμ; exact absurd hμ (Nat.not_lt_zero _)
    | succ nn ih2 =>
      intro y2_2 f_2 H locs hμ2 hB ls hl
      refine lv_iload_n hx hb dX3_takeOver_2 rfl (lv_at hl 0 rfl) ?_
      refine lv_aload_n hx hb dX3_takeOver_3 rfl (lv_at hl 1 rfl) ?_
      refine gf hX hB (cwG (i := i) hi) rfl in3 1 (by decide) wm_1_46 rfl rfl dX3_takeOver_4 ?_
      refine lv_icmp_ge (tgt := 60) hx hb dX3_takeOver_7 (by decide) (fun c29 => ?_) (fun c29 => ?_)
      · rw [← hQ]
        exact end_v hX hB hA3 rfl ⟨_, rfl, rfl⟩ (Nat.le_of_ble_eq_true rfl) (Nat.le_of_ble_eq_true rfl) dX3_takeOver_60
      · refine lv_iload_n hx hb dX3_takeOver_10 rfl (lv_at hl 0 rfl) ?_
        refine lv_aload_n hx hb dX3_takeOver_11 rfl (lv_at hl 2 rfl) ?_
        refine gf hX hB (cwG (i := j) hj) rfl in3 1 (by decide) wm_1_46 rfl rfl dX3_takeOver_12 ?_
        refine lv_icmp_ge (tgt := 60) hx hb dX3_takeOver_15 (by decide) (fun c30 => ?_) (fun c30 => ?_)
        · rw [← hQ]
          exact end_v hX hB hA3 rfl ⟨_, rfl, rfl⟩ (Nat.le_of_ble_eq_true rfl) (Nat.le_of_ble_eq_true rfl) dX3_takeOver_60
        · refine lv_iconst (v := 0) hx hb dX3_takeOver_18 (by decide) ?_
          refine lv_istore_n (lv' := [(3, .int 0), (2, .int y2_2), (0, .ref (a (6 + 2 * i))), (1, .ref (a (6 + 2 * j)))]) hx hb dX3_takeOver_19 rfl hl (by decide) rfl (fun ls hl => ?_)
          have lp20 : ∀ (nn : Nat) (y3_20 : Int32) (f_20 : Nat → Nat → Int64) (H : Heap) (locs : List Loc), gap (r (2 * i + 1)) y3_20 < nn → Bd κ A s (cw κ a r q f_20) H locs → ∀ ls : Array Slot, lv_has ls 4 [(3, .int y3_20), (2, .int y2_2), (0, .ref (a (6 + 2 * i))), (1, .ref (a (6 + 2 * j)))] → W p l e (Rm 1 24 0 0) s m args below meth c H locs 0 0 Q (F0 m 20 ls []) := by
            intro nn
            induction nn with
            | zero => intro y3_20 f_20 H locs hμ; exact absurd hμ (Nat.not_lt_zero _)
            | succ nn ih20 =>
              intro y3_20 f_20 H locs hμ20 hB ls hl
              refine lv_iload_n hx hb dX3_takeOver_20 rfl (lv_at hl 0 rfl) ?_
              refine lv_aload_n hx hb dX3_takeOver_21 rfl (lv_at hl 2 rfl) ?_
              refine gf hX hB (cwG (i := i) hi) rfl in3 2 (by decide) wm_1_52 rfl rfl dX3_takeOver_22 ?_
              refine lv_icmp_ge (tgt := 54) hx hb dX3_takeOver_25 (by decide) (fun c39 => ?_) (fun c39 => ?_)
              · refine lv_iinc (v := y2_2 + 1) (lv' := [(2, .int (y2_2 + 1)), (3, .int y3_20), (0, .ref (a (6 + 2 * i))), (1, .ref (a (6 + 2 * j)))]) hx hb dX3_takeOver_54 hl (k := 1) rfl rfl (by decide) rfl (fun ls hl => ?_)
                refine lv_goto (tgt := 2) hx hb dX3_takeOver_57 (by decide) ?_
                exact ih2 (y2_2 + 1) f_20 _ _  (gap_step c29 hμ2) hB _ (lv_sub hl [0, 2, 3] rfl)
              · refine lv_iload_n hx hb dX3_takeOver_28 rfl (lv_at hl 0 rfl) ?_
                refine lv_aload_n hx hb dX3_takeOver_29 rfl (lv_at hl 3 rfl) ?_
                refine gf hX hB (cwG (i := j) hj) rfl in3 2 (by decide) wm_1_52 rfl rfl dX3_takeOver_30 ?_
                refine lv_icmp_ge (tgt := 54) hx hb dX3_takeOver_33 (by decide) (fun c40 => ?_) (fun c40 => ?_)
                · refine lv_iinc (v := y2_2 + 1) (lv' := [(2, .int (y2_2 + 1)), (3, .int y3_20), (0, .ref (a (6 + 2 * i))), (1, .ref (a (6 + 2 * j)))]) hx hb dX3_takeOver_54 hl (k := 1) rfl rfl (by decide) rfl (fun ls hl => ?_)
                  refine lv_goto (tgt := 2) hx hb dX3_takeOver_57 (by decide) ?_
                  exact ih2 (y2_2 + 1) f_20 _ _  (gap_step c29 hμ2) hB _ (lv_sub hl [0, 2, 3] rfl)
                · refine lv_aload_n hx hb dX3_takeOver_36 rfl (lv_at hl 2 rfl) ?_
                  refine lv_iload_n hx hb dX3_takeOver_37 rfl (lv_at hl 1 rfl) ?_
                  refine lv_iload_n hx hb dX3_takeOver_38 rfl (lv_at hl 0 rfl) ?_
                  refine lv_aload_n hx hb dX3_takeOver_39 rfl (lv_at hl 3 rfl) ?_
                  refine lv_iload_n hx hb dX3_takeOver_40 rfl (lv_at hl 1 rfl) ?_
                  refine lv_iload_n hx hb dX3_takeOver_41 rfl (lv_at hl 0 rfl) ?_
                  refine call_V (n := 2) (As := [.int y2_2, .int y3_20]) (rest := [.int y3_20, .int y2_2, .ref (a (6 + 2 * i))]) hX hB (k_X3_get κ l a r q f_20 j y2_2 y3_20 hj) ⟨rfl, by decide, by decide, by decide +kernel⟩ wm_2_7 wm_1_187 wm_1_188 wm_1_2 wm_1_189 ⟨Nat.le_of_ble_eq_true rfl, Nat.le_of_ble_eq_true rfl⟩ ⟨Nat.le_of_ble_eq_true rfl, Nat.le_of_ble_eq_true rfl⟩ (cwG (i := j) hj) rfl rfl rfl hl.1 rfl (Nat.le_of_ble_eq_true rfl) dX3_takeOver_42 (fun o w' H locs hp hB => ?_)
                  obtain ⟨x41, rfl, rfl⟩ := hp
                  refine W.eq (g2 := F0 m 45 ls [.long x41, .int y3_20, .int y2_2, .ref (a (6 + 2 * i))]) rfl ?_
                  refine call_V (n := 3) (As := [.int y2_2, .int y3_20, .long x41]) (rest := []) hX hB (k_X3_set κ l a r q f_20 i y2_2 y3_20 x41 hi) ⟨rfl, by decide, by decide, by decide +kernel⟩ wm_1_222 wm_1_223 wm_1_224 wm_1_2 wm_1_225 ⟨Nat.le_of_ble_eq_true rfl, Nat.le_of_ble_eq_true rfl⟩ ⟨Nat.le_of_ble_eq_true rfl, Nat.le_of_ble_eq_true rfl⟩ (cwG (i := i) hi) rfl rfl rfl hl.1 rfl (Nat.le_of_ble_eq_true rfl) dX3_takeOver_45 (fun o w' H locs hp hB => ?_)
                  obtain ⟨f42, rfl, rfl⟩ := hp
                  refine W.eq (g2 := F0 m 48 ls []) rfl ?_
                  refine lv_iinc (v := y3_20 + 1) (lv' := [(3, .int (y3_20 + 1)), (2, .int y2_2), (0, .ref (a (6 + 2 * i))), (1, .ref (a (6 + 2 * j)))]) hx hb dX3_takeOver_48 hl (k := 0) rfl rfl (by decide) rfl (fun ls hl => ?_)
                  refine lv_goto (tgt := 20) hx hb dX3_takeOver_51 (by decide) ?_
                  exact ih20 (y3_20 + 1) f42 _ _  (gap_step c39 hμ20) hB _ hl
          exact lp20 _ 0 f_2 _ _  (Nat.lt_succ_self _) hB _ hl
  exact lp2 _ 0 f _ _  (Nat.lt_succ_self _) hB _ hl
set_option maxHeartbeats 4000000 in
set_option maxRecDepth 100000 in
theorem k_X3_becomeColumn (κ : Kt) (l : Launch) (a : Nat → Nat) (r q : Nat → Int32) (f : Nat → Nat → Int64) (i : Nat) (j : Nat) (p1 : Int32) (hi : i < 15) (hj : j < 15) : CM κ l yX3_becomeColumn cX3_becomeColumn 4 (none) 2 44 0 0 [.ref (a (6 + 2 * i)), .ref (a (6 + 2 * j)), .int p1] (cw κ a r q f) (fun o w' => ∃ (r' q' : Nat → Int32) (f' : Nat → Nat → Int64), o = none ∧ (okr r → okr r') ∧ q' 4 = q 4 ∧ w' = cw κ a r' q' f') := by
  refine CM_begin (plainFor_of_name (by decide)) (Nat.le_of_ble_eq_true rfl) ?_
  intro p e s m args below meth c A Q hX hnm hA3 hQ hB ls hl
  have hx := hX.1.1
  have hb := hX.1.2.1
  have hl : lv_has ls 4 [(0, .ref (a (6 + 2 * i))), (1, .ref (a (6 + 2 * j))), (2, .int p1)] := hl
  refine lv_aload_n hx hb dX3_becomeColumn_0 rfl (lv_at hl 0 rfl) ?_
  refine lv_aload_n hx hb dX3_becomeColumn_1 rfl (lv_at hl 1 rfl) ?_
  refine gf hX hB (cwG (i := j) hj) rfl in3 1 (by decide) wm_1_46 rfl rfl dX3_becomeColumn_2 ?_
  refine lv_iconst (v := 1) hx hb dX3_becomeColumn_5 (by decide) ?_
  refine call_V (n := 2) (As := [.int (r (2 * j)), .int 1]) (rest := []) hX hB (k_X3_reshape κ l a r q f i (r (2 * j)) 1 hi) ⟨rfl, by decide, by decide, by decide +kernel⟩ wm_1_212 wm_1_213 wm_1_214 wm_1_2 wm_1_215 ⟨Nat.le_of_ble_eq_true rfl, Nat.le_of_ble_eq_true rfl⟩ ⟨Nat.le_of_ble_eq_true rfl, Nat.le_of_ble_eq_true rfl⟩ (cwG (i := i) hi) rfl rfl rfl hl.1 rfl (Nat.le_of_ble_eq_true rfl) dX3_becomeColumn_6 (fun o w' H locs hp hB => ?_)
  obtain ⟨r1, q3, f5, rfl, ho2, hq4, rfl⟩ := hp
  refine W.eq (g2 := F0 m 9 ls []) rfl ?_
  refine lv_iconst (v := 0) hx hb dX3_becomeColumn_9 (by decide) ?_
  refine lv_istore_n (lv' := [(3, .int 0), (0, .ref (a (6 + 2 * i))), (1, .ref (a (6 + 2 * j))), (2, .int p1)]) hx hb dX3_becomeColumn_10 rfl hl (by decide) rfl (fun ls hl => ?_)
  have lp11 : ∀ (nn : Nat) (y3_11 : Int32) (f_11 : Nat → Nat → Int64) (H : Heap) (locs : List Loc), gap (r1 (2 * i)) y3_11 < nn → Bd κ A s (cw κ a r1 q3 f_11) H locs → ∀ ls : Array Slot, lv_has ls 4 [(3, .int y3_11), (0, .ref (a (6 + 2 * i))), (1, .ref (a (6 + 2 * j))), (2, .int p1)] → W p l e (Rm 2 44 0 0) s m args below meth c H locs 0 0 Q (F0 m 11 ls []) := by
    intro nn
    induction nn with
    | zero => intro y3_11 f_11 H locs hμ; exact absurd hμ (Nat.not_lt_zero _)
    | succ nn ih11 =>
      intro y3_11 f_11 H locs hμ11 hB ls hl
      refine lv_iload_n hx hb dX3_becomeColumn_11 rfl (lv_at hl 0 rfl) ?_
      refine lv_aload_n hx hb dX3_becomeColumn_12 rfl (lv_at hl 1 rfl) ?_
      refine gf hX hB (cwG (i := i) hi) rfl in3 1 (by decide) wm_1_46 rfl rfl dX3_becomeColumn_13 ?_
      refine lv_icmp_ge (tgt := 37) hx hb dX3_becomeColumn_16 (by decide) (fun c12 => ?_) (fun c12 => ?_)
      · rw [← hQ]
        exact end_v hX hB hA3 rfl ⟨_, _, _, rfl, (fun h => ho2 ((fun h => h) h)), (hq4.trans rfl), rfl⟩ (Nat.le_of_ble_eq_true rfl) (Nat.le_of_ble_eq_true rfl) dX3_becomeColumn_37
      · refine lv_aload_n hx hb dX3_becomeColumn_19 rfl (lv_at hl 1 rfl) ?_
        refine lv_iload_n hx hb dX3_becomeColumn_20 rfl (lv_at hl 0 rfl) ?_
        refine lv_iconst (v := 0) hx hb dX3_becomeColumn_21 (by decide) ?_
        refine lv_aload_n hx hb dX3_becomeColumn_22 rfl (lv_at hl 2 rfl) ?_
        refine lv_iload_n hx hb dX3_becomeColumn_23 rfl (lv_at hl 0 rfl) ?_
        refine lv_iload_n hx hb dX3_becomeColumn_24 rfl (lv_at hl 3 rfl) ?_
        refine call_V (n := 2) (As := [.int y3_11, .int p1]) (rest := [.int 0, .int y3_11, .ref (a (6 + 2 * i))]) hX hB (k_X3_get κ l a r1 q3 f_11 j y3_11 p1 hj) ⟨rfl, by decide, by decide, by decide +kernel⟩ wm_2_7 wm_1_187 wm_1_188 wm_1_2 wm_1_189 ⟨Nat.le_of_ble_eq_true rfl, Nat.le_of_ble_eq_true rfl⟩ ⟨Nat.le_of_ble_eq_true rfl, Nat.le_of_ble_eq_true rfl⟩ (cwG (i := j) hj) rfl rfl rfl hl.1 rfl (Nat.le_of_ble_eq_true rfl) dX3_becomeColumn_25 (fun o w' H locs hp hB => ?_)
        obtain ⟨x13, rfl, rfl⟩ := hp
        refine W.eq (g2 := F0 m 28 ls [.long x13, .int 0, .int y3_11, .ref (a (6 + 2 * i))]) rfl ?_
        refine call_V (n := 3) (As := [.int y3_11, .int 0, .long x13]) (rest := []) hX hB (k_X3_set κ l a r1 q3 f_11 i y3_11 0 x13 hi) ⟨rfl, by decide, by decide, by decide +kernel⟩ wm_1_222 wm_1_223 wm_1_224 wm_1_2 wm_1_225 ⟨Nat.le_of_ble_eq_true rfl, Nat.le_of_ble_eq_true rfl⟩ ⟨Nat.le_of_ble_eq_true rfl, Nat.le_of_ble_eq_true rfl⟩ (cwG (i := i) hi) rfl rfl rfl hl.1 rfl (Nat.le_of_ble_eq_true rfl) dX3_becomeColumn_28 (fun o w' H locs hp hB => ?_)
        obtain ⟨f14, rfl, rfl⟩ := hp
        refine W.eq (g2 := F0 m 31 ls []) rfl ?_
        refine lv_iinc (v := y3_11 + 1) (lv' := [(3, .int (y3_11 + 1)), (0, .ref (a (6 + 2 * i))), (1, .ref (a (6 + 2 * j))), (2, .int p1)]) hx hb dX3_becomeColumn_31 hl (k := 0) rfl rfl (by decide) rfl (fun ls hl => ?_)
        refine lv_goto (tgt := 11) hx hb dX3_becomeColumn_34 (by decide) ?_
        exact ih11 (y3_11 + 1) f14 _ _  (gap_step c12 hμ11) hB _ hl
  exact lp11 _ 0 f5 _ _  (Nat.lt_succ_self _) hB _ hl
set_option maxHeartbeats 4000000 in
set_option maxRecDepth 100000 in
theorem k_X3_becomeProduct (κ : Kt) (l : Launch) (a : Nat → Nat) (r q : Nat → Int32) (f : Nat → Nat → Int64) (i : Nat) (j : Nat) (k : Nat) (hi : i < 15) (hj : j < 15) (hk : k < 15) : CM κ l yX3_becomeProduct cX3_becomeProduct 8 (none) 2 44 0 0 [.ref (a (6 + 2 * i)), .ref (a (6 + 2 * j)), .ref (a (6 + 2 * k))] (cw κ a r q f) (fun o w' => ∃ (r' q' : Nat → Int32) (f' : Nat → Nat → Int64), o = none ∧ (okr r → okr r') ∧ q' 4 = q 4 ∧ w' = cw κ a r' q' f') := by
  refine CM_begin (plainFor_of_name (by decide)) (Nat.le_of_ble_eq_true rfl) ?_
  intro p e s m args below meth c A Q hX hnm hA3 hQ hB ls hl
  have hx := hX.1.1
  have hb := hX.1.2.1
  have hl : lv_has ls 8 [(0, .ref (a (6 + 2 * i))), (1, .ref (a (6 + 2 * j))), (2, .ref (a (6 + 2 * k)))] := hl
  refine lv_aload_n hx hb dX3_becomeProduct_0 rfl (lv_at hl 0 rfl) ?_
  refine lv_aload_n hx hb dX3_becomeProduct_1 rfl (lv_at hl 1 rfl) ?_
  refine gf hX hB (cwG (i := j) hj) rfl in3 1 (by decide) wm_1_46 rfl rfl dX3_becomeProduct_2 ?_
  refine lv_aload_n hx hb dX3_becomeProduct_5 rfl (lv_at hl 2 rfl) ?_
  refine gf hX hB (cwG (i := k) hk) rfl in3 2 (by decide) wm_1_52 rfl rfl dX3_becomeProduct_6 ?_
  refine call_V (n := 2) (As := [.int (r (2 * j)), .int (r (2 * k + 1))]) (rest := []) hX hB (k_X3_reshape κ l a r q f i (r (2 * j)) (r (2 * k + 1)) hi) ⟨rfl, by decide, by decide, by decide +kernel⟩ wm_1_212 wm_1_213 wm_1_214 wm_1_2 wm_1_215 ⟨Nat.le_of_ble_eq_true rfl, Nat.le_of_ble_eq_true rfl⟩ ⟨Nat.le_of_ble_eq_true rfl, Nat.le_of_ble_eq_true rfl⟩ (cwG (i := i) hi) rfl rfl rfl hl.1 rfl (Nat.le_of_ble_eq_true rfl) dX3_becomeProduct_9 (fun o w' H locs hp hB => ?_)
  obtain ⟨r1, q3, f5, rfl, ho2, hq4, rfl⟩ := hp
  refine W.eq (g2 := F0 m 12 ls []) rfl ?_
  refine lv_iconst (v := 0) hx hb dX3_becomeProduct_12 (by decide) ?_
  refine lv_istore_n (lv' := [(3, .int 0), (0, .ref (a (6 + 2 * i))), (1, .ref (a (6 + 2 * j))), (2, .ref (a (6 + 2 * k)))]) hx hb dX3_becomeProduct_13 rfl hl (by decide) rfl (fun ls hl => ?_)
  have lp14 : ∀ (nn : Nat) (y3_14 : Int32) (f_14 : Nat → Nat → Int64) (H : Heap) (locs : List Loc), gap (r1 (2 * i)) y3_14 < nn → Bd κ A s (cw κ a r1 q3 f_14) H locs → ∀ ls : Array Slot, lv_has ls 8 [(3, .int y3_14), (0, .ref (a (6 + 2 * i))), (1, .ref (a (6 + 2 * j))), (2, .ref (a (6 + 2 * k)))] → W p l e (Rm 2 44 0 0) s m args below meth c H locs 0 0 Q (F0 m 14 ls []) := by
    intro nn
    induction nn with
    | zero => intro y3_14 f_14 H locs hμ; exact absurd hμ (Nat.not_lt_zero _)
    | succ nn ih14 =>
      intro y3_14 f_14 H locs hμ14 hB ls hl
      refine lv_iload_n hx hb dX3_becomeProduct_14 rfl (lv_at hl 0 rfl) ?_
      refine lv_aload_n hx hb dX3_becomeProduct_15 rfl (lv_at hl 1 rfl) ?_
      refine gf hX hB (cwG (i := i) hi) rfl in3 1 (by decide) wm_1_46 rfl rfl dX3_becomeProduct_16 ?_
      refine lv_icmp_ge (tgt := 97) hx hb dX3_becomeProduct_19 (by decide) (fun c140 => ?_) (fun c140 => ?_)
      · rw [← hQ]
        exact end_v hX hB hA3 rfl ⟨_, _, _, rfl, (fun h => ho2 ((fun h => h) h)), (hq4.trans rfl), rfl⟩ (Nat.le_of_ble_eq_true rfl) (Nat.le_of_ble_eq_true rfl) dX3_becomeProduct_97
      · refine lv_iconst (v := 0) hx hb dX3_becomeProduct_22 (by decide) ?_
        refine lv_istore (lv' := [(4, .int 0), (3, .int y3_14), (0, .ref (a (6 + 2 * i))), (1, .ref (a (6 + 2 * j))), (2, .ref (a (6 + 2 * k)))]) hx hb dX3_becomeProduct_23 hl (by decide) rfl (fun ls hl => ?_)
        have lp25 : ∀ (nn : Nat) (y4_25 : Int32) (f_25 : Nat → Nat → Int64) (H : Heap) (locs : List Loc), gap (r1 (2 * i + 1)) y4_25 < nn → Bd κ A s (cw κ a r1 q3 f_25) H locs → ∀ ls : Array Slot, lv_has ls 8 [(4, .int y4_25), (3, .int y3_14), (0, .ref (a (6 + 2 * i))), (1, .ref (a (6 + 2 * j))), (2, .ref (a (6 + 2 * k)))] → W p l e (Rm 2 44 0 0) s m args below meth c H locs 0 0 Q (F0 m 25 ls []) := by
          intro nn
          induction nn with
          | zero => intro y4_25 f_25 H locs hμ; exact absurd hμ (Nat.not_lt_zero _)
          | succ nn ih25 =>
            intro y4_25 f_25 H locs hμ25 hB ls hl
            refine lv_iload hx hb dX3_becomeProduct_25 (lv_at hl 0 rfl) ?_
            refine lv_aload_n hx hb dX3_becomeProduct_27 rfl (lv_at hl 2 rfl) ?_
            refine gf hX hB (cwG (i := i) hi) rfl in3 2 (by decide) wm_1_52 rfl rfl dX3_becomeProduct_28 ?_
            refine lv_icmp_ge (tgt := 91) hx hb dX3_becomeProduct_31 (by decide) (fun c185 => ?_) (fun c185 => ?_)
            · refine lv_iinc (v := y3_14 + 1) (lv' := [(3, .int (y3_14 + 1)), (4, .int y4_25), (0, .ref (a (6 + 2 * i))), (1, .ref (a (6 + 2 * j))), (2, .ref (a (6 + 2 * k)))]) hx hb dX3_becomeProduct_91 hl (k := 1) rfl rfl (by decide) rfl (fun ls hl => ?_)
              refine lv_goto (tgt := 14) hx hb dX3_becomeProduct_94 (by decide) ?_
              exact ih14 (y3_14 + 1) f_25 _ _  (gap_step c140 hμ14) hB _ (lv_sub hl [0, 2, 3, 4] rfl)
            · refine lv_lconst (v := 0) hx hb dX3_becomeProduct_34 (by decide) ?_
              refine lv_lstore (lv' := [(5, .long 0), (4, .int y4_25), (3, .int y3_14), (0, .ref (a (6 + 2 * i))), (1, .ref (a (6 + 2 * j))), (2, .ref (a (6 + 2 * k)))]) hx hb dX3_becomeProduct_35 hl (by decide) rfl (fun ls hl => ?_)
              refine lv_iconst (v := 0) hx hb dX3_becomeProduct_37 (by decide) ?_
              refine lv_istore (lv' := [(7, .int 0), (5, .long 0), (4, .int y4_25), (3, .int y3_14), (0, .ref (a (6 + 2 * i))), (1, .ref (a (6 + 2 * j))), (2, .ref (a (6 + 2 * k)))]) hx hb dX3_becomeProduct_38 hl (by decide) rfl (fun ls hl => ?_)
              have lp40 : ∀ (nn : Nat) (y7_40 : Int32) (y5_40 : Int64) (H : Heap) (locs : List Loc), gap (r1 (2 * j + 1)) y7_40 < nn → Bd κ A s (cw κ a r1 q3 f_25) H locs → ∀ ls : Array Slot, lv_has ls 8 [(7, .int y7_40), (5, .long y5_40), (4, .int y4_25), (3, .int y3_14), (0, .ref (a (6 + 2 * i))), (1, .ref (a (6 + 2 * j))), (2, .ref (a (6 + 2 * k)))] → W p l e (Rm 2 44 0 0) s m args below meth c H locs 0 0 Q (F0 m 40 ls []) := by
                intro nn
                induction nn with
                | zero => intro y7_40 y5_40 H locs hμ; exact absurd hμ (Nat.not_lt_zero _)
                | succ nn ih40 =>
                  intro y7_40 y5_40 H locs hμ40 hB ls hl
                  refine lv_iload hx hb dX3_becomeProduct_40 (lv_at hl 0 rfl) ?_
                  refine lv_aload_n hx hb dX3_becomeProduct_42 rfl (lv_at hl 5 rfl) ?_
                  refine gf hX hB (cwG (i := j) hj) rfl in3 2 (by decide) wm_1_52 rfl rfl dX3_becomeProduct_43 ?_
                  refine lv_icmp_ge (tgt := 76) hx hb dX3_becomeProduct_46 (by decide) (fun c203 => ?_) (fun c203 => ?_)
                  · refine lv_aload_n hx hb dX3_becomeProduct_76 rfl (lv_at hl 4 rfl) ?_
                    refine lv_iload_n hx hb dX3_becomeProduct_77 rfl (lv_at hl 3 rfl) ?_
                    refine lv_iload hx hb dX3_becomeProduct_78 (lv_at hl 2 rfl) ?_
                    refine lv_lload hx hb dX3_becomeProduct_80 (lv_at hl 1 rfl) ?_
                    refine call_V (n := 3) (As := [.int y3_14, .int y4_25, .long y5_40]) (rest := []) hX hB (k_X3_set κ l a r1 q3 f_25 i y3_14 y4_25 y5_40 hi) ⟨rfl, by decide, by decide, by decide +kernel⟩ wm_1_222 wm_1_223 wm_1_224 wm_1_2 wm_1_225 ⟨Nat.le_of_ble_eq_true rfl, Nat.le_of_ble_eq_true rfl⟩ ⟨Nat.le_of_ble_eq_true rfl, Nat.le_of_ble_eq_true rfl⟩ (cwG (i := i) hi) rfl rfl rfl hl.1 rfl (Nat.le_of_ble_eq_true rfl) dX3_becomeProduct_82 (fun o w' H locs hp hB => ?_)
                    obtain ⟨f204, rfl, rfl⟩ := hp
                    refine W.eq (g2 := F0 m 85 ls []) rfl ?_
                    refine lv_iinc (v := y4_25 + 1) (lv' := [(4, .int (y4_25 + 1)), (7, .int y7_40), (5, .long y5_40), (3, .int y3_14), (0, .ref (a (6 + 2 * i))), (1, .ref (a (6 + 2 * j))), (2, .ref (a (6 + 2 * k)))]) hx hb dX3_becomeProduct_85 hl (k := 2) rfl rfl (by decide) rfl (fun ls hl => ?_)
                    refine lv_goto (tgt := 25) hx hb dX3_becomeProduct_88 (by decide) ?_
                    exact ih25 (y4_25 + 1) f204 _ _  (gap_step c185 hμ25) hB _ (lv_sub hl [0, 3, 4, 5, 6] rfl)
                  · refine lv_lload hx hb dX3_becomeProduct_49 (lv_at hl 1 rfl) ?_
                    refine lv_aload_n hx hb dX3_becomeProduct_51 rfl (lv_at hl 5 rfl) ?_
                    refine lv_iload_n hx hb dX3_becomeProduct_52 rfl (lv_at hl 3 rfl) ?_
                    refine lv_iload hx hb dX3_becomeProduct_53 (lv_at hl 0 rfl) ?_
                    refine call_V (n := 2) (As := [.int y3_14, .int y7_40]) (rest := [.long y5_40]) hX hB (k_X3_get κ l a r1 q3 f_25 j y3_14 y7_40 hj) ⟨rfl, by decide, by decide, by decide +kernel⟩ wm_2_7 wm_1_187 wm_1_188 wm_1_2 wm_1_189 ⟨Nat.le_of_ble_eq_true rfl, Nat.le_of_ble_eq_true rfl⟩ ⟨Nat.le_of_ble_eq_true rfl, Nat.le_of_ble_eq_true rfl⟩ (cwG (i := j) hj) rfl rfl rfl hl.1 rfl (Nat.le_of_ble_eq_true rfl) dX3_becomeProduct_55 (fun o w' H locs hp hB => ?_)
                    obtain ⟨x205, rfl, rfl⟩ := hp
                    refine W.eq (g2 := F0 m 58 ls [.long x205, .long y5_40]) rfl ?_
                    refine lv_aload_n hx hb dX3_becomeProduct_58 rfl (lv_at hl 6 rfl) ?_
                    refine lv_iload hx hb dX3_becomeProduct_59 (lv_at hl 0 rfl) ?_
                    refine lv_iload hx hb dX3_becomeProduct_61 (lv_at hl 2 rfl) ?_
                    refine call_V (n := 2) (As := [.int y7_40, .int y4_25]) (rest := [.long x205, .long y5_40]) hX hB (k_X3_get κ l a r1 q3 f_25 k y7_40 y4_25 hk) ⟨rfl, by decide, by decide, by decide +kernel⟩ wm_2_7 wm_1_187 wm_1_188 wm_1_2 wm_1_189 ⟨Nat.le_of_ble_eq_true rfl, Nat.le_of_ble_eq_true rfl⟩ ⟨Nat.le_of_ble_eq_true rfl, Nat.le_of_ble_eq_true rfl⟩ (cwG (i := k) hk) rfl rfl rfl hl.1 rfl (Nat.le_of_ble_eq_true rfl) dX3_becomeProduct_63 (fun o w' H locs hp hB => ?_)
                    obtain ⟨x206, rfl, rfl⟩ := hp
                    refine W.eq (g2 := F0 m 66 ls [.long x206, .long x205, .long y5_40]) rfl ?_
                    refine lv_lmul hx hb dX3_becomeProduct_66 ?_
                    refine lv_ladd hx hb dX3_becomeProduct_67 ?_
                    refine lv_lstore (lv' := [(5, .long (y5_40 + (x205 * x206))), (7, .int y7_40), (4, .int y4_25), (3, .int y3_14), (0, .ref (a (6 + 2 * i))), (1, .ref (a (6 + 2 * j))), (2, .ref (a (6 + 2 * k)))]) hx hb dX3_becomeProduct_68 hl (by decide) rfl (fun ls hl => ?_)
                    refine lv_iinc (v := y7_40 + 1) (lv' := [(7, .int (y7_40 + 1)), (5, .long (y5_40 + (x205 * x206))), (4, .int y4_25), (3, .int y3_14), (0, .ref (a (6 + 2 * i))), (1, .ref (a (6 + 2 * j))), (2, .ref (a (6 + 2 * k)))]) hx hb dX3_becomeProduct_70 hl (k := 1) rfl rfl (by decide) rfl (fun ls hl => ?_)
                    refine lv_goto (tgt := 40) hx hb dX3_becomeProduct_73 (by decide) ?_
                    exact ih40 (y7_40 + 1) (y5_40 + (x205 * x206)) _ _  (gap_step c203 hμ40) hB _ hl
              exact lp40 _ 0 0 _ _  (Nat.lt_succ_self _) hB _ hl
        exact lp25 _ 0 f_14 _ _  (Nat.lt_succ_self _) hB _ hl
  exact lp14 _ 0 f5 _ _  (Nat.lt_succ_self _) hB _ hl
set_option maxHeartbeats 4000000 in
set_option maxRecDepth 100000 in
theorem k_X3_exchangeLines (κ : Kt) (l : Launch) (a : Nat → Nat) (r q : Nat → Int32) (f : Nat → Nat → Int64) (i : Nat) (p0 : Int32) (p1 : Int32) (p2 : Int32) (hi : i < 15) : CM κ l yX3_exchangeLines cX3_exchangeLines 8 (none) 1 24 0 0 [.ref (a (6 + 2 * i)), .int p0, .int p1, .int p2] (cw κ a r q f) (fun o w' => ∃ f' : Nat → Nat → Int64, o = none ∧ w' = cw κ a r q f') := by
  refine CM_begin (plainFor_of_name (by decide)) (Nat.le_of_ble_eq_true rfl) ?_
  intro p e s m args below meth c A Q hX hnm hA3 hQ hB ls hl
  have hx := hX.1.1
  have hb := hX.1.2.1
  have hl : lv_has ls 8 [(0, .ref (a (6 + 2 * i))), (1, .int p0), (2, .int p1), (3, .int p2)] := hl
  refine lv_iload_n hx hb dX3_exchangeLines_0 rfl (lv_at hl 1 rfl) ?_
  refine lv_if_eq (tgt := 11) hx hb dX3_exchangeLines_1 (by decide) (fun c1 => ?_) (fun c1 => ?_)
  · refine lv_aload_n hx hb dX3_exchangeLines_11 rfl (lv_at hl 0 rfl) ?_
    refine gf hX hB (cwG (i := i) hi) rfl in3 2 (by decide) wm_1_52 rfl rfl dX3_exchangeLines_12 ?_
    refine lv_istore (lv' := [(4, .int (r (2 * i + 1))), (0, .ref (a (6 + 2 * i))), (1, .int p0), (2, .int p1), (3, .int p2)]) hx hb dX3_exchangeLines_15 hl (by decide) rfl (fun ls hl => ?_)
    refine lv_iconst (v := 0) hx hb dX3_exchangeLines_17 (by decide) ?_
    refine lv_istore (lv' := [(5, .int 0), (4, .int (r (2 * i + 1))), (0, .ref (a (6 + 2 * i))), (1, .int p0), (2, .int p1), (3, .int p2)]) hx hb dX3_exchangeLines_18 hl (by decide) rfl (fun ls hl => ?_)
    have lp20 : ∀ (nn : Nat) (y5_20 : Int32) (f_20 : Nat → Nat → Int64) (H : Heap) (locs : List Loc), gap (r (2 * i + 1)) y5_20 < nn → Bd κ A s (cw κ a r q f_20) H locs → ∀ ls : Array Slot, lv_has ls 8 [(5, .int y5_20), (4, .int (r (2 * i + 1))), (0, .ref (a (6 + 2 * i))), (1, .int p0), (2, .int p1), (3, .int p2)] → W p l e (Rm 1 24 0 0) s m args below meth c H locs 0 0 Q (F0 m 20 ls []) := by
      intro nn
      induction nn with
      | zero => intro y5_20 f_20 H locs hμ; exact absurd hμ (Nat.not_lt_zero _)
      | succ nn ih20 =>
        intro y5_20 f_20 H locs hμ20 hB ls hl
        refine lv_iload hx hb dX3_exchangeLines_20 (lv_at hl 0 rfl) ?_
        refine lv_iload hx hb dX3_exchangeLines_22 (lv_at hl 1 rfl) ?_
        refine lv_icmp_ge (tgt := 109) hx hb dX3_exchangeLines_24 (by decide) (fun c30 => ?_) (fun c30 => ?_)
        · rw [← hQ]
          exact end_v hX hB hA3 rfl ⟨_, rfl, rfl⟩ (Nat.le_of_ble_eq_true rfl) (Nat.le_of_ble_eq_true rfl) dX3_exchangeLines_109
        · refine lv_iload_n hx hb dX3_exchangeLines_27 rfl (lv_at hl 3 rfl) ?_
          have jn48 : ∀ (z0_48 : Int64) (H : Heap) (locs : List Loc), Bd κ A s (cw κ a r q f_20) H locs → ∀ ls : Array Slot, lv_has ls 8 [(5, .int y5_20), (4, .int (r (2 * i + 1))), (0, .ref (a (6 + 2 * i))), (1, .int p0), (2, .int p1), (3, .int p2)] → W p l e (Rm 1 24 0 0) s m args below meth c H locs 0 0 Q (F0 m 48 ls [.long z0_48]) := by
            intro z0_48 H locs hB ls hl
            refine lv_lstore (lv' := [(6, .long z0_48), (5, .int y5_20), (4, .int (r (2 * i + 1))), (0, .ref (a (6 + 2 * i))), (1, .int p0), (2, .int p1), (3, .int p2)]) hx hb dX3_exchangeLines_48 hl (by decide) rfl (fun ls hl => ?_)
            refine lv_iload_n hx hb dX3_exchangeLines_50 rfl (lv_at hl 4 rfl) ?_
            refine lv_if_eq (tgt := 80) hx hb dX3_exchangeLines_51 (by decide) (fun c34 => ?_) (fun c34 => ?_)
            · refine lv_aload_n hx hb dX3_exchangeLines_80 rfl (lv_at hl 3 rfl) ?_
              refine lv_iload_n hx hb dX3_exchangeLines_81 rfl (lv_at hl 5 rfl) ?_
              refine lv_iload hx hb dX3_exchangeLines_82 (lv_at hl 1 rfl) ?_
              refine lv_aload_n hx hb dX3_exchangeLines_84 rfl (lv_at hl 3 rfl) ?_
              refine lv_iload_n hx hb dX3_exchangeLines_85 rfl (lv_at hl 6 rfl) ?_
              refine lv_iload hx hb dX3_exchangeLines_86 (lv_at hl 1 rfl) ?_
              refine call_V (n := 2) (As := [.int p2, .int y5_20]) (rest := [.int y5_20, .int p1, .ref (a (6 + 2 * i))]) hX hB (k_X3_get κ l a r q f_20 i p2 y5_20 hi) ⟨rfl, by decide, by decide, by decide +kernel⟩ wm_2_7 wm_1_187 wm_1_188 wm_1_2 wm_1_189 ⟨Nat.le_of_ble_eq_true rfl, Nat.le_of_ble_eq_true rfl⟩ ⟨Nat.le_of_ble_eq_true rfl, Nat.le_of_ble_eq_true rfl⟩ (cwG (i := i) hi) rfl rfl rfl hl.1 rfl (Nat.le_of_ble_eq_true rfl) dX3_exchangeLines_88 (fun o w' H locs hp hB => ?_)
              obtain ⟨x35, rfl, rfl⟩ := hp
              refine W.eq (g2 := F0 m 91 ls [.long x35, .int y5_20, .int p1, .ref (a (6 + 2 * i))]) rfl ?_
              refine call_V (n := 3) (As := [.int p1, .int y5_20, .long x35]) (rest := []) hX hB (k_X3_set κ l a r q f_20 i p1 y5_20 x35 hi) ⟨rfl, by decide, by decide, by decide +kernel⟩ wm_1_222 wm_1_223 wm_1_224 wm_1_2 wm_1_225 ⟨Nat.le_of_ble_eq_true rfl, Nat.le_of_ble_eq_true rfl⟩ ⟨Nat.le_of_ble_eq_true rfl, Nat.le_of_ble_eq_true rfl⟩ (cwG (i := i) hi) rfl rfl rfl hl.1 rfl (Nat.le_of_ble_eq_true rfl) dX3_exchangeLines_91 (fun o w' H locs hp hB => ?_)
              obtain ⟨f36, rfl, rfl⟩ := hp
              refine W.eq (g2 := F0 m 94 ls []) rfl ?_
              refine lv_aload_n hx hb dX3_exchangeLines_94 rfl (lv_at hl 3 rfl) ?_
              refine lv_iload_n hx hb dX3_exchangeLines_95 rfl (lv_at hl 6 rfl) ?_
              refine lv_iload hx hb dX3_exchangeLines_96 (lv_at hl 1 rfl) ?_
              refine lv_lload hx hb dX3_exchangeLines_98 (lv_at hl 0 rfl) ?_
              refine call_V (n := 3) (As := [.int p2, .int y5_20, .long z0_48]) (rest := []) hX hB (k_X3_set κ l a r q f36 i p2 y5_20 z0_48 hi) ⟨rfl, by decide, by decide, by decide +kernel⟩ wm_1_222 wm_1_223 wm_1_224 wm_1_2 wm_1_225 ⟨Nat.le_of_ble_eq_true rfl, Nat.le_of_ble_eq_true rfl⟩ ⟨Nat.le_of_ble_eq_true rfl, Nat.le_of_ble_eq_true rfl⟩ (cwG (i := i) hi) rfl rfl rfl hl.1 rfl (Nat.le_of_ble_eq_true rfl) dX3_exchangeLines_100 (fun o w' H locs hp hB => ?_)
              obtain ⟨f37, rfl, rfl⟩ := hp
              refine W.eq (g2 := F0 m 103 ls []) rfl ?_
              refine lv_iinc (v := y5_20 + 1) (lv' := [(5, .int (y5_20 + 1)), (6, .long z0_48), (4, .int (r (2 * i + 1))), (0, .ref (a (6 + 2 * i))), (1, .int p0), (2, .int p1), (3, .int p2)]) hx hb dX3_exchangeLines_103 hl (k := 1) rfl rfl (by decide) rfl (fun ls hl => ?_)
              refine lv_goto (tgt := 20) hx hb dX3_exchangeLines_106 (by decide) ?_
              exact ih20 (y5_20 + 1) f37 _ _  (gap_step c30 hμ20) hB _ (lv_sub hl [0, 2, 3, 4, 5, 6] rfl)
            · refine lv_aload_n hx hb dX3_exchangeLines_54 rfl (lv_at hl 3 rfl) ?_
              refine lv_iload hx hb dX3_exchangeLines_55 (lv_at hl 1 rfl) ?_
              refine lv_iload_n hx hb dX3_exchangeLines_57 rfl (lv_at hl 5 rfl) ?_
              refine lv_aload_n hx hb dX3_exchangeLines_58 rfl (lv_at hl 3 rfl) ?_
              refine lv_iload hx hb dX3_exchangeLines_59 (lv_at hl 1 rfl) ?_
              refine lv_iload_n hx hb dX3_exchangeLines_61 rfl (lv_at hl 6 rfl) ?_
              refine call_V (n := 2) (As := [.int y5_20, .int p2]) (rest := [.int p1, .int y5_20, .ref (a (6 + 2 * i))]) hX hB (k_X3_get κ l a r q f_20 i y5_20 p2 hi) ⟨rfl, by decide, by decide, by decide +kernel⟩ wm_2_7 wm_1_187 wm_1_188 wm_1_2 wm_1_189 ⟨Nat.le_of_ble_eq_true rfl, Nat.le_of_ble_eq_true rfl⟩ ⟨Nat.le_of_ble_eq_true rfl, Nat.le_of_ble_eq_true rfl⟩ (cwG (i := i) hi) rfl rfl rfl hl.1 rfl (Nat.le_of_ble_eq_true rfl) dX3_exchangeLines_62 (fun o w' H locs hp hB => ?_)
              obtain ⟨x38, rfl, rfl⟩ := hp
              refine W.eq (g2 := F0 m 65 ls [.long x38, .int p1, .int y5_20, .ref (a (6 + 2 * i))]) rfl ?_
              refine call_V (n := 3) (As := [.int y5_20, .int p1, .long x38]) (rest := []) hX hB (k_X3_set κ l a r q f_20 i y5_20 p1 x38 hi) ⟨rfl, by decide, by decide, by decide +kernel⟩ wm_1_222 wm_1_223 wm_1_224 wm_1_2 wm_1_225 ⟨Nat.le_of_ble_eq_true rfl, Nat.le_of_ble_eq_true rfl⟩ ⟨Nat.le_of_ble_eq_true rfl, Nat.le_of_ble_eq_true rfl⟩ (cwG (i := i) hi) rfl rfl rfl hl.1 rfl (Nat.le_of_ble_eq_true rfl) dX3_exchangeLines_65 (fun o w' H locs hp hB => ?_)
              obtain ⟨f39, rfl, rfl⟩ := hp
              refine W.eq (g2 := F0 m 68 ls []) rfl ?_
              refine lv_aload_n hx hb dX3_exchangeLines_68 rfl (lv_at hl 3 rfl) ?_
              refine lv_iload hx hb dX3_exchangeLines_69 (lv_at hl 1 rfl) ?_
              refine lv_iload_n hx hb dX3_exchangeLines_71 rfl (lv_at hl 6 rfl) ?_
              refine lv_lload hx hb dX3_exchangeLines_72 (lv_at hl 0 rfl) ?_
              refine call_V (n := 3) (As := [.int y5_20, .int p2, .long z0_48]) (rest := []) hX hB (k_X3_set κ l a r q f39 i y5_20 p2 z0_48 hi) ⟨rfl, by decide, by decide, by decide +kernel⟩ wm_1_222 wm_1_223 wm_1_224 wm_1_2 wm_1_225 ⟨Nat.le_of_ble_eq_true rfl, Nat.le_of_ble_eq_true rfl⟩ ⟨Nat.le_of_ble_eq_true rfl, Nat.le_of_ble_eq_true rfl⟩ (cwG (i := i) hi) rfl rfl rfl hl.1 rfl (Nat.le_of_ble_eq_true rfl) dX3_exchangeLines_74 (fun o w' H locs hp hB => ?_)
              obtain ⟨f40, rfl, rfl⟩ := hp
              refine W.eq (g2 := F0 m 77 ls []) rfl ?_
              refine lv_goto (tgt := 103) hx hb dX3_exchangeLines_77 (by decide) ?_
              refine lv_iinc (v := y5_20 + 1) (lv' := [(5, .int (y5_20 + 1)), (6, .long z0_48), (4, .int (r (2 * i + 1))), (0, .ref (a (6 + 2 * i))), (1, .int p0), (2, .int p1), (3, .int p2)]) hx hb dX3_exchangeLines_103 hl (k := 1) rfl rfl (by decide) rfl (fun ls hl => ?_)
              refine lv_goto (tgt := 20) hx hb dX3_exchangeLines_106 (by decide) ?_
              exact ih20 (y5_20 + 1) f40 _ _  (gap_step c30 hμ20) hB _ (lv_sub hl [0, 2, 3, 4, 5, 6] rfl)
          refine lv_if_eq (tgt := 41) hx hb dX3_exchangeLines_28 (by decide) (fun c41 => ?_) (fun c41 => ?_)
          · refine lv_aload_n hx hb dX3_exchangeLines_41 rfl (lv_at hl 2 rfl) ?_
            refine lv_iload_n hx hb dX3_exchangeLines_42 rfl (lv_at hl 4 rfl) ?_
            refine lv_iload hx hb dX3_exchangeLines_43 (lv_at hl 0 rfl) ?_
            refine call_V (n := 2) (As := [.int p1, .int y5_20]) (rest := []) hX hB (k_X3_get κ l a r q f_20 i p1 y5_20 hi) ⟨rfl, by decide, by decide, by decide +kernel⟩ wm_2_7 wm_1_187 wm_1_188 wm_1_2 wm_1_189 ⟨Nat.le_of_ble_eq_true rfl, Nat.le_of_ble_eq_true rfl⟩ ⟨Nat.le_of_ble_eq_true rfl, Nat.le_of_ble_eq_true rfl⟩ (cwG (i := i) hi) rfl rfl rfl hl.1 rfl (Nat.le_of_ble_eq_true rfl) dX3_exchangeLines_45 (fun o w' H locs hp hB => ?_)
            obtain ⟨x42, rfl, rfl⟩ := hp
            refine W.eq (g2 := F0 m 48 ls [.long x42]) rfl ?_
            exact jn48 x42 _ _  hB _ hl
          · refine lv_aload_n hx hb dX3_exchangeLines_31 rfl (lv_at hl 2 rfl) ?_
            refine lv_iload hx hb dX3_exchangeLines_32 (lv_at hl 0 rfl) ?_
            refine lv_iload_n hx hb dX3_exchangeLines_34 rfl (lv_at hl 4 rfl) ?_
            refine call_V (n := 2) (As := [.int y5_20, .int p1]) (rest := []) hX hB (k_X3_get κ l a r q f_20 i y5_20 p1 hi) ⟨rfl, by decide, by decide, by decide +kernel⟩ wm_2_7 wm_1_187 wm_1_188 wm_1_2 wm_1_189 ⟨Nat.le_of_ble_eq_true rfl, Nat.le_of_ble_eq_true rfl⟩ ⟨Nat.le_of_ble_eq_true rfl, Nat.le_of_ble_eq_true rfl⟩ (cwG (i := i) hi) rfl rfl rfl hl.1 rfl (Nat.le_of_ble_eq_true rfl) dX3_exchangeLines_35 (fun o w' H locs hp hB => ?_)
            obtain ⟨x43, rfl, rfl⟩ := hp
            refine W.eq (g2 := F0 m 38 ls [.long x43]) rfl ?_
            refine lv_goto (tgt := 48) hx hb dX3_exchangeLines_38 (by decide) ?_
            exact jn48 x43 _ _  hB _ hl
    exact lp20 _ 0 f _ _  (Nat.lt_succ_self _) hB _ hl
  · refine lv_aload_n hx hb dX3_exchangeLines_4 rfl (lv_at hl 0 rfl) ?_
    refine gf hX hB (cwG (i := i) hi) rfl in3 1 (by decide) wm_1_46 rfl rfl dX3_exchangeLines_5 ?_
    refine lv_goto (tgt := 15) hx hb dX3_exchangeLines_8 (by decide) ?_
    refine lv_istore (lv' := [(4, .int (r (2 * i))), (0, .ref (a (6 + 2 * i))), (1, .int p0), (2, .int p1), (3, .int p2)]) hx hb dX3_exchangeLines_15 hl (by decide) rfl (fun ls hl => ?_)
    refine lv_iconst (v := 0) hx hb dX3_exchangeLines_17 (by decide) ?_
    refine lv_istore (lv' := [(5, .int 0), (4, .int (r (2 * i))), (0, .ref (a (6 + 2 * i))), (1, .int p0), (2, .int p1), (3, .int p2)]) hx hb dX3_exchangeLines_18 hl (by decide) rfl (fun ls hl => ?_)
    have lp20 : ∀ (nn : Nat) (y5_20 : Int32) (f_20 : Nat → Nat → Int64) (H : Heap) (locs : List Loc), gap (r (2 * i)) y5_20 < nn → Bd κ A s (cw κ a r q f_20) H locs → ∀ ls : Array Slot, lv_has ls 8 [(5, .int y5_20), (4, .int (r (2 * i))), (0, .ref (a (6 + 2 * i))), (1, .int p0), (2, .int p1), (3, .int p2)] → W p l e (Rm 1 24 0 0) s m args below meth c H locs 0 0 Q (F0 m 20 ls []) := by
      intro nn
      induction nn with
      | zero => intro y5_20 f_20 H locs hμ; exact absurd hμ (Nat.not_lt_zero _)
      | succ nn ih20 =>
        intro y5_20 f_20 H locs hμ20 hB ls hl
        refine lv_iload hx hb dX3_exchangeLines_20 (lv_at hl 0 rfl) ?_
        refine lv_iload hx hb dX3_exchangeLines_22 (lv_at hl 1 rfl) ?_
        refine lv_icmp_ge (tgt := 109) hx hb dX3_exchangeLines_24 (by decide) (fun c72 => ?_) (fun c72 => ?_)
        · rw [← hQ]
          exact end_v hX hB hA3 rfl ⟨_, rfl, rfl⟩ (Nat.le_of_ble_eq_true rfl) (Nat.le_of_ble_eq_true rfl) dX3_exchangeLines_109
        · refine lv_iload_n hx hb dX3_exchangeLines_27 rfl (lv_at hl 3 rfl) ?_
          have jn48 : ∀ (z0_48 : Int64) (H : Heap) (locs : List Loc), Bd κ A s (cw κ a r q f_20) H locs → ∀ ls : Array Slot, lv_has ls 8 [(5, .int y5_20), (4, .int (r (2 * i))), (0, .ref (a (6 + 2 * i))), (1, .int p0), (2, .int p1), (3, .int p2)] → W p l e (Rm 1 24 0 0) s m args below meth c H locs 0 0 Q (F0 m 48 ls [.long z0_48]) := by
            intro z0_48 H locs hB ls hl
            refine lv_lstore (lv' := [(6, .long z0_48), (5, .int y5_20), (4, .int (r (2 * i))), (0, .ref (a (6 + 2 * i))), (1, .int p0), (2, .int p1), (3, .int p2)]) hx hb dX3_exchangeLines_48 hl (by decide) rfl (fun ls hl => ?_)
            refine lv_iload_n hx hb dX3_exchangeLines_50 rfl (lv_at hl 4 rfl) ?_
            refine lv_if_eq (tgt := 80) hx hb dX3_exchangeLines_51 (by decide) (fun c76 => ?_) (fun c76 => ?_)
            · refine lv_aload_n hx hb dX3_exchangeLines_80 rfl (lv_at hl 3 rfl) ?_
              refine lv_iload_n hx hb dX3_exchangeLines_81 rfl (lv_at hl 5 rfl) ?_
              refine lv_iload hx hb dX3_exchangeLines_82 (lv_at hl 1 rfl) ?_
              refine lv_aload_n hx hb dX3_exchangeLines_84 rfl (lv_at hl 3 rfl) ?_
              refine lv_iload_n hx hb dX3_exchangeLines_85 rfl (lv_at hl 6 rfl) ?_
              refine lv_iload hx hb dX3_exchangeLines_86 (lv_at hl 1 rfl) ?_
              refine call_V (n := 2) (As := [.int p2, .int y5_20]) (rest := [.int y5_20, .int p1, .ref (a (6 + 2 * i))]) hX hB (k_X3_get κ l a r q f_20 i p2 y5_20 hi) ⟨rfl, by decide, by decide, by decide +kernel⟩ wm_2_7 wm_1_187 wm_1_188 wm_1_2 wm_1_189 ⟨Nat.le_of_ble_eq_true rfl, Nat.le_of_ble_eq_true rfl⟩ ⟨Nat.le_of_ble_eq_true rfl, Nat.le_of_ble_eq_true rfl⟩ (cwG (i := i) hi) rfl rfl rfl hl.1 rfl (Nat.le_of_ble_eq_true rfl) dX3_exchangeLines_88 (fun o w' H locs hp hB => ?_)
              obtain ⟨x77, rfl, rfl⟩ := hp
              refine W.eq (g2 := F0 m 91 ls [.long x77, .int y5_20, .int p1, .ref (a (6 + 2 * i))]) rfl ?_
              refine call_V (n := 3) (As := [.int p1, .int y5_20, .long x77]) (rest := []) hX hB (k_X3_set κ l a r q f_20 i p1 y5_20 x77 hi) ⟨rfl, by decide, by decide, by decide +kernel⟩ wm_1_222 wm_1_223 wm_1_224 wm_1_2 wm_1_225 ⟨Nat.le_of_ble_eq_true rfl, Nat.le_of_ble_eq_true rfl⟩ ⟨Nat.le_of_ble_eq_true rfl, Nat.le_of_ble_eq_true rfl⟩ (cwG (i := i) hi) rfl rfl rfl hl.1 rfl (Nat.le_of_ble_eq_true rfl) dX3_exchangeLines_91 (fun o w' H locs hp hB => ?_)
              obtain ⟨f78, rfl, rfl⟩ := hp
              refine W.eq (g2 := F0 m 94 ls []) rfl ?_
              refine lv_aload_n hx hb dX3_exchangeLines_94 rfl (lv_at hl 3 rfl) ?_
              refine lv_iload_n hx hb dX3_exchangeLines_95 rfl (lv_at hl 6 rfl) ?_
              refine lv_iload hx hb dX3_exchangeLines_96 (lv_at hl 1 rfl) ?_
              refine lv_lload hx hb dX3_exchangeLines_98 (lv_at hl 0 rfl) ?_
              refine call_V (n := 3) (As := [.int p2, .int y5_20, .long z0_48]) (rest := []) hX hB (k_X3_set κ l a r q f78 i p2 y5_20 z0_48 hi) ⟨rfl, by decide, by decide, by decide +kernel⟩ wm_1_222 wm_1_223 wm_1_224 wm_1_2 wm_1_225 ⟨Nat.le_of_ble_eq_true rfl, Nat.le_of_ble_eq_true rfl⟩ ⟨Nat.le_of_ble_eq_true rfl, Nat.le_of_ble_eq_true rfl⟩ (cwG (i := i) hi) rfl rfl rfl hl.1 rfl (Nat.le_of_ble_eq_true rfl) dX3_exchangeLines_100 (fun o w' H locs hp hB => ?_)
              obtain ⟨f79, rfl, rfl⟩ := hp
              refine W.eq (g2 := F0 m 103 ls []) rfl ?_
              refine lv_iinc (v := y5_20 + 1) (lv' := [(5, .int (y5_20 + 1)), (6, .long z0_48), (4, .int (r (2 * i))), (0, .ref (a (6 + 2 * i))), (1, .int p0), (2, .int p1), (3, .int p2)]) hx hb dX3_exchangeLines_103 hl (k := 1) rfl rfl (by decide) rfl (fun ls hl => ?_)
              refine lv_goto (tgt := 20) hx hb dX3_exchangeLines_106 (by decide) ?_
              exact ih20 (y5_20 + 1) f79 _ _  (gap_step c72 hμ20) hB _ (lv_sub hl [0, 2, 3, 4, 5, 6] rfl)
            · refine lv_aload_n hx hb dX3_exchangeLines_54 rfl (lv_at hl 3 rfl) ?_
              refine lv_iload hx hb dX3_exchangeLines_55 (lv_at hl 1 rfl) ?_
              refine lv_iload_n hx hb dX3_exchangeLines_57 rfl (lv_at hl 5 rfl) ?_
              refine lv_aload_n hx hb dX3_exchangeLines_58 rfl (lv_at hl 3 rfl) ?_
              refine lv_iload hx hb dX3_exchangeLines_59 (lv_at hl 1 rfl) ?_
              refine lv_iload_n hx hb dX3_exchangeLines_61 rfl (lv_at hl 6 rfl) ?_
              refine call_V (n := 2) (As := [.int y5_20, .int p2]) (rest := [.int p1, .int y5_20, .ref (a (6 + 2 * i))]) hX hB (k_X3_get κ l a r q f_20 i y5_20 p2 hi) ⟨rfl, by decide, by decide, by decide +kernel⟩ wm_2_7 wm_1_187 wm_1_188 wm_1_2 wm_1_189 ⟨Nat.le_of_ble_eq_true rfl, Nat.le_of_ble_eq_true rfl⟩ ⟨Nat.le_of_ble_eq_true rfl, Nat.le_of_ble_eq_true rfl⟩ (cwG (i := i) hi) rfl rfl rfl hl.1 rfl (Nat.le_of_ble_eq_true rfl) dX3_exchangeLines_62 (fun o w' H locs hp hB => ?_)
              obtain ⟨x80, rfl, rfl⟩ := hp
              refine W.eq (g2 := F0 m 65 ls [.long x80, .int p1, .int y5_20, .ref (a (6 + 2 * i))]) rfl ?_
              refine call_V (n := 3) (As := [.int y5_20, .int p1, .long x80]) (rest := []) hX hB (k_X3_set κ l a r q f_20 i y5_20 p1 x80 hi) ⟨rfl, by decide, by decide, by decide +kernel⟩ wm_1_222 wm_1_223 wm_1_224 wm_1_2 wm_1_225 ⟨Nat.le_of_ble_eq_true rfl, Nat.le_of_ble_eq_true rfl⟩ ⟨Nat.le_of_ble_eq_true rfl, Nat.le_of_ble_eq_true rfl⟩ (cwG (i := i) hi) rfl rfl rfl hl.1 rfl (Nat.le_of_ble_eq_true rfl) dX3_exchangeLines_65 (fun o w' H locs hp hB => ?_)
              obtain ⟨f81, rfl, rfl⟩ := hp
              refine W.eq (g2 := F0 m 68 ls []) rfl ?_
              refine lv_aload_n hx hb dX3_exchangeLines_68 rfl (lv_at hl 3 rfl) ?_
              refine lv_iload hx hb dX3_exchangeLines_69 (lv_at hl 1 rfl) ?_
              refine lv_iload_n hx hb dX3_exchangeLines_71 rfl (lv_at hl 6 rfl) ?_
              refine lv_lload hx hb dX3_exchangeLines_72 (lv_at hl 0 rfl) ?_
              refine call_V (n := 3) (As := [.int y5_20, .int p2, .long z0_48]) (rest := []) hX hB (k_X3_set κ l a r q f81 i y5_20 p2 z0_48 hi) ⟨rfl, by decide, by decide, by decide +kernel⟩ wm_1_222 wm_1_223 wm_1_224 wm_1_2 wm_1_225 ⟨Nat.le_of_ble_eq_true rfl, Nat.le_of_ble_eq_true rfl⟩ ⟨Nat.le_of_ble_eq_true rfl, Nat.le_of_ble_eq_true rfl⟩ (cwG (i := i) hi) rfl rfl rfl hl.1 rfl (Nat.le_of_ble_eq_true rfl) dX3_exchangeLines_74 (fun o w' H locs hp hB => ?_)
              obtain ⟨f82, rfl, rfl⟩ := hp
              refine W.eq (g2 := F0 m 77 ls []) rfl ?_
              refine lv_goto (tgt := 103) hx hb dX3_exchangeLines_77 (by decide) ?_
              refine lv_iinc (v := y5_20 + 1) (lv' := [(5, .int (y5_20 + 1)), (6, .long z0_48), (4, .int (r (2 * i))), (0, .ref (a (6 + 2 * i))), (1, .int p0), (2, .int p1), (3, .int p2)]) hx hb dX3_exchangeLines_103 hl (k := 1) rfl rfl (by decide) rfl (fun ls hl => ?_)
              refine lv_goto (tgt := 20) hx hb dX3_exchangeLines_106 (by decide) ?_
              exact ih20 (y5_20 + 1) f82 _ _  (gap_step c72 hμ20) hB _ (lv_sub hl [0, 2, 3, 4, 5, 6] rfl)
          refine lv_if_eq (tgt := 41) hx hb dX3_exchangeLines_28 (by decide) (fun c83 => ?_) (fun c83 => ?_)
          · refine lv_aload_n hx hb dX3_exchangeLines_41 rfl (lv_at hl 2 rfl) ?_
            refine lv_iload_n hx hb dX3_exchangeLines_42 rfl (lv_at hl 4 rfl) ?_
            refine lv_iload hx hb dX3_exchangeLines_43 (lv_at hl 0 rfl) ?_
            refine call_V (n := 2) (As := [.int p1, .int y5_20]) (rest := []) hX hB (k_X3_get κ l a r q f_20 i p1 y5_20 hi) ⟨rfl, by decide, by decide, by decide +kernel⟩ wm_2_7 wm_1_187 wm_1_188 wm_1_2 wm_1_189 ⟨Nat.le_of_ble_eq_true rfl, Nat.le_of_ble_eq_true rfl⟩ ⟨Nat.le_of_ble_eq_true rfl, Nat.le_of_ble_eq_true rfl⟩ (cwG (i := i) hi) rfl rfl rfl hl.1 rfl (Nat.le_of_ble_eq_true rfl) dX3_exchangeLines_45 (fun o w' H locs hp hB => ?_)
            obtain ⟨x84, rfl, rfl⟩ := hp
            refine W.eq (g2 := F0 m 48 ls [.long x84]) rfl ?_
            exact jn48 x84 _ _  hB _ hl
          · refine lv_aload_n hx hb dX3_exchangeLines_31 rfl (lv_at hl 2 rfl) ?_
            refine lv_iload hx hb dX3_exchangeLines_32 (lv_at hl 0 rfl) ?_
            refine lv_iload_n hx hb dX3_exchangeLines_34 rfl (lv_at hl 4 rfl) ?_
            refine call_V (n := 2) (As := [.int y5_20, .int p1]) (rest := []) hX hB (k_X3_get κ l a r q f_20 i y5_20 p1 hi) ⟨rfl, by decide, by decide, by decide +kernel⟩ wm_2_7 wm_1_187 wm_1_188 wm_1_2 wm_1_189 ⟨Nat.le_of_ble_eq_true rfl, Nat.le_of_ble_eq_true rfl⟩ ⟨Nat.le_of_ble_eq_true rfl, Nat.le_of_ble_eq_true rfl⟩ (cwG (i := i) hi) rfl rfl rfl hl.1 rfl (Nat.le_of_ble_eq_true rfl) dX3_exchangeLines_35 (fun o w' H locs hp hB => ?_)
            obtain ⟨x85, rfl, rfl⟩ := hp
            refine W.eq (g2 := F0 m 38 ls [.long x85]) rfl ?_
            refine lv_goto (tgt := 48) hx hb dX3_exchangeLines_38 (by decide) ?_
            exact jn48 x85 _ _  hB _ hl
    exact lp20 _ 0 f _ _  (Nat.lt_succ_self _) hB _ hl
set_option maxHeartbeats 4000000 in
set_option maxRecDepth 100000 in
theorem k_X3_turnLine (κ : Kt) (l : Launch) (a : Nat → Nat) (r q : Nat → Int32) (f : Nat → Nat → Int64) (i : Nat) (p0 : Int32) (p1 : Int32) (hi : i < 15) : CM κ l yX3_turnLine cX3_turnLine 5 (none) 1 24 0 0 [.ref (a (6 + 2 * i)), .int p0, .int p1] (cw κ a r q f) (fun o w' => ∃ f' : Nat → Nat → Int64, o = none ∧ w' = cw κ a r q f') := by
  refine CM_begin (plainFor_of_name (by decide)) (Nat.le_of_ble_eq_true rfl) ?_
  intro p e s m args below meth c A Q hX hnm hA3 hQ hB ls hl
  have hx := hX.1.1
  have hb := hX.1.2.1
  have hl : lv_has ls 5 [(0, .ref (a (6 + 2 * i))), (1, .int p0), (2, .int p1)] := hl
  refine lv_iload_n hx hb dX3_turnLine_0 rfl (lv_at hl 1 rfl) ?_
  refine lv_if_eq (tgt := 11) hx hb dX3_turnLine_1 (by decide) (fun c1 => ?_) (fun c1 => ?_)
  · refine lv_aload_n hx hb dX3_turnLine_11 rfl (lv_at hl 0 rfl) ?_
    refine gf hX hB (cwG (i := i) hi) rfl in3 2 (by decide) wm_1_52 rfl rfl dX3_turnLine_12 ?_
    refine lv_istore_n (lv' := [(3, .int (r (2 * i + 1))), (0, .ref (a (6 + 2 * i))), (1, .int p0), (2, .int p1)]) hx hb dX3_turnLine_15 rfl hl (by decide) rfl (fun ls hl => ?_)
    refine lv_iconst (v := 0) hx hb dX3_turnLine_16 (by decide) ?_
    refine lv_istore (lv' := [(4, .int 0), (3, .int (r (2 * i + 1))), (0, .ref (a (6 + 2 * i))), (1, .int p0), (2, .int p1)]) hx hb dX3_turnLine_17 hl (by decide) rfl (fun ls hl => ?_)
    have lp19 : ∀ (nn : Nat) (y4_19 : Int32) (f_19 : Nat → Nat → Int64) (H : Heap) (locs : List Loc), gap (r (2 * i + 1)) y4_19 < nn → Bd κ A s (cw κ a r q f_19) H locs → ∀ ls : Array Slot, lv_has ls 5 [(4, .int y4_19), (3, .int (r (2 * i + 1))), (0, .ref (a (6 + 2 * i))), (1, .int p0), (2, .int p1)] → W p l e (Rm 1 24 0 0) s m args below meth c H locs 0 0 Q (F0 m 19 ls []) := by
      intro nn
      induction nn with
      | zero => intro y4_19 f_19 H locs hμ; exact absurd hμ (Nat.not_lt_zero _)
      | succ nn ih19 =>
        intro y4_19 f_19 H locs hμ19 hB ls hl
        refine lv_iload hx hb dX3_turnLine_19 (lv_at hl 0 rfl) ?_
        refine lv_iload_n hx hb dX3_turnLine_21 rfl (lv_at hl 1 rfl) ?_
        refine lv_icmp_ge (tgt := 68) hx hb dX3_turnLine_22 (by decide) (fun c14 => ?_) (fun c14 => ?_)
        · rw [← hQ]
          exact end_v hX hB hA3 rfl ⟨_, rfl, rfl⟩ (Nat.le_of_ble_eq_true rfl) (Nat.le_of_ble_eq_true rfl) dX3_turnLine_68
        · refine lv_iload_n hx hb dX3_turnLine_25 rfl (lv_at hl 3 rfl) ?_
          refine lv_if_eq (tgt := 47) hx hb dX3_turnLine_26 (by decide) (fun c15 => ?_) (fun c15 => ?_)
          · refine lv_aload_n hx hb dX3_turnLine_47 rfl (lv_at hl 2 rfl) ?_
            refine lv_iload_n hx hb dX3_turnLine_48 rfl (lv_at hl 4 rfl) ?_
            refine lv_iload hx hb dX3_turnLine_49 (lv_at hl 0 rfl) ?_
            refine lv_aload_n hx hb dX3_turnLine_51 rfl (lv_at hl 2 rfl) ?_
            refine lv_iload_n hx hb dX3_turnLine_52 rfl (lv_at hl 4 rfl) ?_
            refine lv_iload hx hb dX3_turnLine_53 (lv_at hl 0 rfl) ?_
            refine call_V (n := 2) (As := [.int p1, .int y4_19]) (rest := [.int y4_19, .int p1, .ref (a (6 + 2 * i))]) hX hB (k_X3_get κ l a r q f_19 i p1 y4_19 hi) ⟨rfl, by decide, by decide, by decide +kernel⟩ wm_2_7 wm_1_187 wm_1_188 wm_1_2 wm_1_189 ⟨Nat.le_of_ble_eq_true rfl, Nat.le_of_ble_eq_true rfl⟩ ⟨Nat.le_of_ble_eq_true rfl, Nat.le_of_ble_eq_true rfl⟩ (cwG (i := i) hi) rfl rfl rfl hl.1 rfl (Nat.le_of_ble_eq_true rfl) dX3_turnLine_55 (fun o w' H locs hp hB => ?_)
            obtain ⟨x16, rfl, rfl⟩ := hp
            refine W.eq (g2 := F0 m 58 ls [.long x16, .int y4_19, .int p1, .ref (a (6 + 2 * i))]) rfl ?_
            refine lv_lneg hx hb dX3_turnLine_58 ?_
            refine call_V (n := 3) (As := [.int p1, .int y4_19, .long (-x16)]) (rest := []) hX hB (k_X3_set κ l a r q f_19 i p1 y4_19 (-x16) hi) ⟨rfl, by decide, by decide, by decide +kernel⟩ wm_1_222 wm_1_223 wm_1_224 wm_1_2 wm_1_225 ⟨Nat.le_of_ble_eq_true rfl, Nat.le_of_ble_eq_true rfl⟩ ⟨Nat.le_of_ble_eq_true rfl, Nat.le_of_ble_eq_true rfl⟩ (cwG (i := i) hi) rfl rfl rfl hl.1 rfl (Nat.le_of_ble_eq_true rfl) dX3_turnLine_59 (fun o w' H locs hp hB => ?_)
            obtain ⟨f17, rfl, rfl⟩ := hp
            refine W.eq (g2 := F0 m 62 ls []) rfl ?_
            refine lv_iinc (v := y4_19 + 1) (lv' := [(4, .int (y4_19 + 1)), (3, .int (r (2 * i + 1))), (0, .ref (a (6 + 2 * i))), (1, .int p0), (2, .int p1)]) hx hb dX3_turnLine_62 hl (k := 0) rfl rfl (by decide) rfl (fun ls hl => ?_)
            refine lv_goto (tgt := 19) hx hb dX3_turnLine_65 (by decide) ?_
            exact ih19 (y4_19 + 1) f17 _ _  (gap_step c14 hμ19) hB _ hl
          · refine lv_aload_n hx hb dX3_turnLine_29 rfl (lv_at hl 2 rfl) ?_
            refine lv_iload hx hb dX3_turnLine_30 (lv_at hl 0 rfl) ?_
            refine lv_iload_n hx hb dX3_turnLine_32 rfl (lv_at hl 4 rfl) ?_
            refine lv_aload_n hx hb dX3_turnLine_33 rfl (lv_at hl 2 rfl) ?_
            refine lv_iload hx hb dX3_turnLine_34 (lv_at hl 0 rfl) ?_
            refine lv_iload_n hx hb dX3_turnLine_36 rfl (lv_at hl 4 rfl) ?_
            refine call_V (n := 2) (As := [.int y4_19, .int p1]) (rest := [.int p1, .int y4_19, .ref (a (6 + 2 * i))]) hX hB (k_X3_get κ l a r q f_19 i y4_19 p1 hi) ⟨rfl, by decide, by decide, by decide +kernel⟩ wm_2_7 wm_1_187 wm_1_188 wm_1_2 wm_1_189 ⟨Nat.le_of_ble_eq_true rfl, Nat.le_of_ble_eq_true rfl⟩ ⟨Nat.le_of_ble_eq_true rfl, Nat.le_of_ble_eq_true rfl⟩ (cwG (i := i) hi) rfl rfl rfl hl.1 rfl (Nat.le_of_ble_eq_true rfl) dX3_turnLine_37 (fun o w' H locs hp hB => ?_)
            obtain ⟨x18, rfl, rfl⟩ := hp
            refine W.eq (g2 := F0 m 40 ls [.long x18, .int p1, .int y4_19, .ref (a (6 + 2 * i))]) rfl ?_
            refine lv_lneg hx hb dX3_turnLine_40 ?_
            refine call_V (n := 3) (As := [.int y4_19, .int p1, .long (-x18)]) (rest := []) hX hB (k_X3_set κ l a r q f_19 i y4_19 p1 (-x18) hi) ⟨rfl, by decide, by decide, by decide +kernel⟩ wm_1_222 wm_1_223 wm_1_224 wm_1_2 wm_1_225 ⟨Nat.le_of_ble_eq_true rfl, Nat.le_of_ble_eq_true rfl⟩ ⟨Nat.le_of_ble_eq_true rfl, Nat.le_of_ble_eq_true rfl⟩ (cwG (i := i) hi) rfl rfl rfl hl.1 rfl (Nat.le_of_ble_eq_true rfl) dX3_turnLine_41 (fun o w' H locs hp hB => ?_)
            obtain ⟨f19, rfl, rfl⟩ := hp
            refine W.eq (g2 := F0 m 44 ls []) rfl ?_
            refine lv_goto (tgt := 62) hx hb dX3_turnLine_44 (by decide) ?_
            refine lv_iinc (v := y4_19 + 1) (lv' := [(4, .int (y4_19 + 1)), (3, .int (r (2 * i + 1))), (0, .ref (a (6 + 2 * i))), (1, .int p0), (2, .int p1)]) hx hb dX3_turnLine_62 hl (k := 0) rfl rfl (by decide) rfl (fun ls hl => ?_)
            refine lv_goto (tgt := 19) hx hb dX3_turnLine_65 (by decide) ?_
            exact ih19 (y4_19 + 1) f19 _ _  (gap_step c14 hμ19) hB _ hl
    exact lp19 _ 0 f _ _  (Nat.lt_succ_self _) hB _ hl
  · refine lv_aload_n hx hb dX3_turnLine_4 rfl (lv_at hl 0 rfl) ?_
    refine gf hX hB (cwG (i := i) hi) rfl in3 1 (by decide) wm_1_46 rfl rfl dX3_turnLine_5 ?_
    refine lv_goto (tgt := 15) hx hb dX3_turnLine_8 (by decide) ?_
    refine lv_istore_n (lv' := [(3, .int (r (2 * i))), (0, .ref (a (6 + 2 * i))), (1, .int p0), (2, .int p1)]) hx hb dX3_turnLine_15 rfl hl (by decide) rfl (fun ls hl => ?_)
    refine lv_iconst (v := 0) hx hb dX3_turnLine_16 (by decide) ?_
    refine lv_istore (lv' := [(4, .int 0), (3, .int (r (2 * i))), (0, .ref (a (6 + 2 * i))), (1, .int p0), (2, .int p1)]) hx hb dX3_turnLine_17 hl (by decide) rfl (fun ls hl => ?_)
    have lp19 : ∀ (nn : Nat) (y4_19 : Int32) (f_19 : Nat → Nat → Int64) (H : Heap) (locs : List Loc), gap (r (2 * i)) y4_19 < nn → Bd κ A s (cw κ a r q f_19) H locs → ∀ ls : Array Slot, lv_has ls 5 [(4, .int y4_19), (3, .int (r (2 * i))), (0, .ref (a (6 + 2 * i))), (1, .int p0), (2, .int p1)] → W p l e (Rm 1 24 0 0) s m args below meth c H locs 0 0 Q (F0 m 19 ls []) := by
      intro nn
      induction nn with
      | zero => intro y4_19 f_19 H locs hμ; exact absurd hμ (Nat.not_lt_zero _)
      | succ nn ih19 =>
        intro y4_19 f_19 H locs hμ19 hB ls hl
        refine lv_iload hx hb dX3_turnLine_19 (lv_at hl 0 rfl) ?_
        refine lv_iload_n hx hb dX3_turnLine_21 rfl (lv_at hl 1 rfl) ?_
        refine lv_icmp_ge (tgt := 68) hx hb dX3_turnLine_22 (by decide) (fun c32 => ?_) (fun c32 => ?_)
        · rw [← hQ]
          exact end_v hX hB hA3 rfl ⟨_, rfl, rfl⟩ (Nat.le_of_ble_eq_true rfl) (Nat.le_of_ble_eq_true rfl) dX3_turnLine_68
        · refine lv_iload_n hx hb dX3_turnLine_25 rfl (lv_at hl 3 rfl) ?_
          refine lv_if_eq (tgt := 47) hx hb dX3_turnLine_26 (by decide) (fun c33 => ?_) (fun c33 => ?_)
          · refine lv_aload_n hx hb dX3_turnLine_47 rfl (lv_at hl 2 rfl) ?_
            refine lv_iload_n hx hb dX3_turnLine_48 rfl (lv_at hl 4 rfl) ?_
            refine lv_iload hx hb dX3_turnLine_49 (lv_at hl 0 rfl) ?_
            refine lv_aload_n hx hb dX3_turnLine_51 rfl (lv_at hl 2 rfl) ?_
            refine lv_iload_n hx hb dX3_turnLine_52 rfl (lv_at hl 4 rfl) ?_
            refine lv_iload hx hb dX3_turnLine_53 (lv_at hl 0 rfl) ?_
            refine call_V (n := 2) (As := [.int p1, .int y4_19]) (rest := [.int y4_19, .int p1, .ref (a (6 + 2 * i))]) hX hB (k_X3_get κ l a r q f_19 i p1 y4_19 hi) ⟨rfl, by decide, by decide, by decide +kernel⟩ wm_2_7 wm_1_187 wm_1_188 wm_1_2 wm_1_189 ⟨Nat.le_of_ble_eq_true rfl, Nat.le_of_ble_eq_true rfl⟩ ⟨Nat.le_of_ble_eq_true rfl, Nat.le_of_ble_eq_true rfl⟩ (cwG (i := i) hi) rfl rfl rfl hl.1 rfl (Nat.le_of_ble_eq_true rfl) dX3_turnLine_55 (fun o w' H locs hp hB => ?_)
            obtain ⟨x34, rfl, rfl⟩ := hp
            refine W.eq (g2 := F0 m 58 ls [.long x34, .int y4_19, .int p1, .ref (a (6 + 2 * i))]) rfl ?_
            refine lv_lneg hx hb dX3_turnLine_58 ?_
            refine call_V (n := 3) (As := [.int p1, .int y4_19, .long (-x34)]) (rest := []) hX hB (k_X3_set κ l a r q f_19 i p1 y4_19 (-x34) hi) ⟨rfl, by decide, by decide, by decide +kernel⟩ wm_1_222 wm_1_223 wm_1_224 wm_1_2 wm_1_225 ⟨Nat.le_of_ble_eq_true rfl, Nat.le_of_ble_eq_true rfl⟩ ⟨Nat.le_of_ble_eq_true rfl, Nat.le_of_ble_eq_true rfl⟩ (cwG (i := i) hi) rfl rfl rfl hl.1 rfl (Nat.le_of_ble_eq_true rfl) dX3_turnLine_59 (fun o w' H locs hp hB => ?_)
            obtain ⟨f35, rfl, rfl⟩ := hp
            refine W.eq (g2 := F0 m 62 ls []) rfl ?_
            refine lv_iinc (v := y4_19 + 1) (lv' := [(4, .int (y4_19 + 1)), (3, .int (r (2 * i))), (0, .ref (a (6 + 2 * i))), (1, .int p0), (2, .int p1)]) hx hb dX3_turnLine_62 hl (k := 0) rfl rfl (by decide) rfl (fun ls hl => ?_)
            refine lv_goto (tgt := 19) hx hb dX3_turnLine_65 (by decide) ?_
            exact ih19 (y4_19 + 1) f35 _ _  (gap_step c32 hμ19) hB _ hl
          · refine lv_aload_n hx hb dX3_turnLine_29 rfl (lv_at hl 2 rfl) ?_
            refine lv_iload hx hb dX3_turnLine_30 (lv_at hl 0 rfl) ?_
            refine lv_iload_n hx hb dX3_turnLine_32 rfl (lv_at hl 4 rfl) ?_
            refine lv_aload_n hx hb dX3_turnLine_33 rfl (lv_at hl 2 rfl) ?_
            refine lv_iload hx hb dX3_turnLine_34 (lv_at hl 0 rfl) ?_
            refine lv_iload_n hx hb dX3_turnLine_36 rfl (lv_at hl 4 rfl) ?_
            refine call_V (n := 2) (As := [.int y4_19, .int p1]) (rest := [.int p1, .int y4_19, .ref (a (6 + 2 * i))]) hX hB (k_X3_get κ l a r q f_19 i y4_19 p1 hi) ⟨rfl, by decide, by decide, by decide +kernel⟩ wm_2_7 wm_1_187 wm_1_188 wm_1_2 wm_1_189 ⟨Nat.le_of_ble_eq_true rfl, Nat.le_of_ble_eq_true rfl⟩ ⟨Nat.le_of_ble_eq_true rfl, Nat.le_of_ble_eq_true rfl⟩ (cwG (i := i) hi) rfl rfl rfl hl.1 rfl (Nat.le_of_ble_eq_true rfl) dX3_turnLine_37 (fun o w' H locs hp hB => ?_)
            obtain ⟨x36, rfl, rfl⟩ := hp
            refine W.eq (g2 := F0 m 40 ls [.long x36, .int p1, .int y4_19, .ref (a (6 + 2 * i))]) rfl ?_
            refine lv_lneg hx hb dX3_turnLine_40 ?_
            refine call_V (n := 3) (As := [.int y4_19, .int p1, .long (-x36)]) (rest := []) hX hB (k_X3_set κ l a r q f_19 i y4_19 p1 (-x36) hi) ⟨rfl, by decide, by decide, by decide +kernel⟩ wm_1_222 wm_1_223 wm_1_224 wm_1_2 wm_1_225 ⟨Nat.le_of_ble_eq_true rfl, Nat.le_of_ble_eq_true rfl⟩ ⟨Nat.le_of_ble_eq_true rfl, Nat.le_of_ble_eq_true rfl⟩ (cwG (i := i) hi) rfl rfl rfl hl.1 rfl (Nat.le_of_ble_eq_true rfl) dX3_turnLine_41 (fun o w' H locs hp hB => ?_)
            obtain ⟨f37, rfl, rfl⟩ := hp
            refine W.eq (g2 := F0 m 44 ls []) rfl ?_
            refine lv_goto (tgt := 62) hx hb dX3_turnLine_44 (by decide) ?_
            refine lv_iinc (v := y4_19 + 1) (lv' := [(4, .int (y4_19 + 1)), (3, .int (r (2 * i))), (0, .ref (a (6 + 2 * i))), (1, .int p0), (2, .int p1)]) hx hb dX3_turnLine_62 hl (k := 0) rfl rfl (by decide) rfl (fun ls hl => ?_)
            refine lv_goto (tgt := 19) hx hb dX3_turnLine_65 (by decide) ?_
            exact ih19 (y4_19 + 1) f37 _ _  (gap_step c32 hμ19) hB _ hl
    exact lp19 _ 0 f _ _  (Nat.lt_succ_self _) hB _ hl
set_option maxHeartbeats 4000000 in
set_option maxRecDepth 100000 in
theorem k_X3_addLine (κ : Kt) (l : Launch) (a : Nat → Nat) (r q : Nat → Int32) (f : Nat → Nat → Int64) (i : Nat) (p0 : Int32) (p1 : Int32) (p2 : Int32) (p3 : Int64) (hi : i < 15) : CM κ l yX3_addLine cX3_addLine 8 (none) 1 24 0 0 [.ref (a (6 + 2 * i)), .int p0, .int p1, .int p2, .long p3] (cw κ a r q f) (fun o w' => ∃ f' : Nat → Nat → Int64, o = none ∧ w' = cw κ a r q f') := by
  refine CM_begin (plainFor_of_name (by decide)) (Nat.le_of_ble_eq_true rfl) ?_
  intro p e s m args below meth c A Q hX hnm hA3 hQ hB ls hl
  have hx := hX.1.1
  have hb := hX.1.2.1
  have hl : lv_has ls 8 [(0, .ref (a (6 + 2 * i))), (1, .int p0), (2, .int p1), (3, .int p2), (4, .long p3)] := hl
  refine lv_iload_n hx hb dX3_addLine_0 rfl (lv_at hl 1 rfl) ?_
  refine lv_if_eq (tgt := 11) hx hb dX3_addLine_1 (by decide) (fun c1 => ?_) (fun c1 => ?_)
  · refine lv_aload_n hx hb dX3_addLine_11 rfl (lv_at hl 0 rfl) ?_
    refine gf hX hB (cwG (i := i) hi) rfl in3 2 (by decide) wm_1_52 rfl rfl dX3_addLine_12 ?_
    refine lv_istore (lv' := [(6, .int (r (2 * i + 1))), (0, .ref (a (6 + 2 * i))), (1, .int p0), (2, .int p1), (3, .int p2), (4, .long p3)]) hx hb dX3_addLine_15 hl (by decide) rfl (fun ls hl => ?_)
    refine lv_iconst (v := 0) hx hb dX3_addLine_17 (by decide) ?_
    refine lv_istore (lv' := [(7, .int 0), (6, .int (r (2 * i + 1))), (0, .ref (a (6 + 2 * i))), (1, .int p0), (2, .int p1), (3, .int p2), (4, .long p3)]) hx hb dX3_addLine_18 hl (by decide) rfl (fun ls hl => ?_)
    have lp20 : ∀ (nn : Nat) (y7_20 : Int32) (f_20 : Nat → Nat → Int64) (H : Heap) (locs : List Loc), gap (r (2 * i + 1)) y7_20 < nn → Bd κ A s (cw κ a r q f_20) H locs → ∀ ls : Array Slot, lv_has ls 8 [(7, .int y7_20), (6, .int (r (2 * i + 1))), (0, .ref (a (6 + 2 * i))), (1, .int p0), (2, .int p1), (3, .int p2), (4, .long p3)] → W p l e (Rm 1 24 0 0) s m args below meth c H locs 0 0 Q (F0 m 20 ls []) := by
      intro nn
      induction nn with
      | zero => intro y7_20 f_20 H locs hμ; exact absurd hμ (Nat.not_lt_zero _)
      | succ nn ih20 =>
        intro y7_20 f_20 H locs hμ20 hB ls hl
        refine lv_iload hx hb dX3_addLine_20 (lv_at hl 0 rfl) ?_
        refine lv_iload hx hb dX3_addLine_22 (lv_at hl 1 rfl) ?_
        refine lv_icmp_ge (tgt := 90) hx hb dX3_addLine_24 (by decide) (fun c18 => ?_) (fun c18 => ?_)
        · rw [← hQ]
          exact end_v hX hB hA3 rfl ⟨_, rfl, rfl⟩ (Nat.le_of_ble_eq_true rfl) (Nat.le_of_ble_eq_true rfl) dX3_addLine_90
        · refine lv_iload_n hx hb dX3_addLine_27 rfl (lv_at hl 3 rfl) ?_
          refine lv_if_eq (tgt := 59) hx hb dX3_addLine_28 (by decide) (fun c19 => ?_) (fun c19 => ?_)
          · refine lv_aload_n hx hb dX3_addLine_59 rfl (lv_at hl 2 rfl) ?_
            refine lv_iload_n hx hb dX3_addLine_60 rfl (lv_at hl 4 rfl) ?_
            refine lv_iload hx hb dX3_addLine_61 (lv_at hl 0 rfl) ?_
            refine lv_aload_n hx hb dX3_addLine_63 rfl (lv_at hl 2 rfl) ?_
            refine lv_iload_n hx hb dX3_addLine_64 rfl (lv_at hl 4 rfl) ?_
            refine lv_iload hx hb dX3_addLine_65 (lv_at hl 0 rfl) ?_
            refine call_V (n := 2) (As := [.int p1, .int y7_20]) (rest := [.int y7_20, .int p1, .ref (a (6 + 2 * i))]) hX hB (k_X3_get κ l a r q f_20 i p1 y7_20 hi) ⟨rfl, by decide, by decide, by decide +kernel⟩ wm_2_7 wm_1_187 wm_1_188 wm_1_2 wm_1_189 ⟨Nat.le_of_ble_eq_true rfl, Nat.le_of_ble_eq_true rfl⟩ ⟨Nat.le_of_ble_eq_true rfl, Nat.le_of_ble_eq_true rfl⟩ (cwG (i := i) hi) rfl rfl rfl hl.1 rfl (Nat.le_of_ble_eq_true rfl) dX3_addLine_67 (fun o w' H locs hp hB => ?_)
            obtain ⟨x20, rfl, rfl⟩ := hp
            refine W.eq (g2 := F0 m 70 ls [.long x20, .int y7_20, .int p1, .ref (a (6 + 2 * i))]) rfl ?_
            refine lv_lload hx hb dX3_addLine_70 (lv_at hl 6 rfl) ?_
            refine lv_aload_n hx hb dX3_addLine_72 rfl (lv_at hl 2 rfl) ?_
            refine lv_iload_n hx hb dX3_addLine_73 rfl (lv_at hl 5 rfl) ?_
            refine lv_iload hx hb dX3_addLine_74 (lv_at hl 0 rfl) ?_
            refine call_V (n := 2) (As := [.int p2, .int y7_20]) (rest := [.long p3, .long x20, .int y7_20, .int p1, .ref (a (6 + 2 * i))]) hX hB (k_X3_get κ l a r q f_20 i p2 y7_20 hi) ⟨rfl, by decide, by decide, by decide +kernel⟩ wm_2_7 wm_1_187 wm_1_188 wm_1_2 wm_1_189 ⟨Nat.le_of_ble_eq_true rfl, Nat.le_of_ble_eq_true rfl⟩ ⟨Nat.le_of_ble_eq_true rfl, Nat.le_of_ble_eq_true rfl⟩ (cwG (i := i) hi) rfl rfl rfl hl.1 rfl (Nat.le_of_ble_eq_true rfl) dX3_addLine_76 (fun o w' H locs hp hB => ?_)
            obtain ⟨x21, rfl, rfl⟩ := hp
            refine W.eq (g2 := F0 m 79 ls [.long x21, .long p3, .long x20, .int y7_20, .int p1, .ref (a (6 + 2 * i))]) rfl ?_
            refine lv_lmul hx hb dX3_addLine_79 ?_
            refine lv_ladd hx hb dX3_addLine_80 ?_
            refine call_V (n := 3) (As := [.int p1, .int y7_20, .long (x20 + (p3 * x21))]) (rest := []) hX hB (k_X3_set κ l a r q f_20 i p1 y7_20 (x20 + (p3 * x21)) hi) ⟨rfl, by decide, by decide, by decide +kernel⟩ wm_1_222 wm_1_223 wm_1_224 wm_1_2 wm_1_225 ⟨Nat.le_of_ble_eq_true rfl, Nat.le_of_ble_eq_true rfl⟩ ⟨Nat.le_of_ble_eq_true rfl, Nat.le_of_ble_eq_true rfl⟩ (cwG (i := i) hi) rfl rfl rfl hl.1 rfl (Nat.le_of_ble_eq_true rfl) dX3_addLine_81 (fun o w' H locs hp hB => ?_)
            obtain ⟨f22, rfl, rfl⟩ := hp
            refine W.eq (g2 := F0 m 84 ls []) rfl ?_
            refine lv_iinc (v := y7_20 + 1) (lv' := [(7, .int (y7_20 + 1)), (6, .int (r (2 * i + 1))), (0, .ref (a (6 + 2 * i))), (1, .int p0), (2, .int p1), (3, .int p2), (4, .long p3)]) hx hb dX3_addLine_84 hl (k := 0) rfl rfl (by decide) rfl (fun ls hl => ?_)
            refine lv_goto (tgt := 20) hx hb dX3_addLine_87 (by decide) ?_
            exact ih20 (y7_20 + 1) f22 _ _  (gap_step c18 hμ20) hB _ hl
          · refine lv_aload_n hx hb dX3_addLine_31 rfl (lv_at hl 2 rfl) ?_
            refine lv_iload hx hb dX3_addLine_32 (lv_at hl 0 rfl) ?_
            refine lv_iload_n hx hb dX3_addLine_34 rfl (lv_at hl 4 rfl) ?_
            refine lv_aload_n hx hb dX3_addLine_35 rfl (lv_at hl 2 rfl) ?_
            refine lv_iload hx hb dX3_addLine_36 (lv_at hl 0 rfl) ?_
            refine lv_iload_n hx hb dX3_addLine_38 rfl (lv_at hl 4 rfl) ?_
            refine call_V (n := 2) (As := [.int y7_20, .int p1]) (rest := [.int p1, .int y7_20, .ref (a (6 + 2 * i))]) hX hB (k_X3_get κ l a r q f_20 i y7_20 p1 hi) ⟨rfl, by decide, by decide, by decide +kernel⟩ wm_2_7 wm_1_187 wm_1_188 wm_1_2 wm_1_189 ⟨Nat.le_of_ble_eq_true rfl, Nat.le_of_ble_eq_true rfl⟩ ⟨Nat.le_of_ble_eq_true rfl, Nat.le_of_ble_eq_true rfl⟩ (cwG (i := i) hi) rfl rfl rfl hl.1 rfl (Nat.le_of_ble_eq_true rfl) dX3_addLine_39 (fun o w' H locs hp hB => ?_)
            obtain ⟨x23, rfl, rfl⟩ := hp
            refine W.eq (g2 := F0 m 42 ls [.long x23, .int p1, .int y7_20, .ref (a (6 + 2 * i))]) rfl ?_
            refine lv_lload hx hb dX3_addLine_42 (lv_at hl 6 rfl) ?_
            refine lv_aload_n hx hb dX3_addLine_44 rfl (lv_at hl 2 rfl) ?_
            refine lv_iload hx hb dX3_addLine_45 (lv_at hl 0 rfl) ?_
            refine lv_iload_n hx hb dX3_addLine_47 rfl (lv_at hl 5 rfl) ?_
            refine call_V (n := 2) (As := [.int y7_20, .int p2]) (rest := [.long p3, .long x23, .int p1, .int y7_20, .ref (a (6 + 2 * i))]) hX hB (k_X3_get κ l a r q f_20 i y7_20 p2 hi) ⟨rfl, by decide, by decide, by decide +kernel⟩ wm_2_7 wm_1_187 wm_1_188 wm_1_2 wm_1_189 ⟨Nat.le_of_ble_eq_true rfl, Nat.le_of_ble_eq_true rfl⟩ ⟨Nat.le_of_ble_eq_true rfl, Nat.le_of_ble_eq_true rfl⟩ (cwG (i := i) hi) rfl rfl rfl hl.1 rfl (Nat.le_of_ble_eq_true rfl) dX3_addLine_48 (fun o w' H locs hp hB => ?_)
            obtain ⟨x24, rfl, rfl⟩ := hp
            refine W.eq (g2 := F0 m 51 ls [.long x24, .long p3, .long x23, .int p1, .int y7_20, .ref (a (6 + 2 * i))]) rfl ?_
            refine lv_lmul hx hb dX3_addLine_51 ?_
            refine lv_ladd hx hb dX3_addLine_52 ?_
            refine call_V (n := 3) (As := [.int y7_20, .int p1, .long (x23 + (p3 * x24))]) (rest := []) hX hB (k_X3_set κ l a r q f_20 i y7_20 p1 (x23 + (p3 * x24)) hi) ⟨rfl, by decide, by decide, by decide +kernel⟩ wm_1_222 wm_1_223 wm_1_224 wm_1_2 wm_1_225 ⟨Nat.le_of_ble_eq_true rfl, Nat.le_of_ble_eq_true rfl⟩ ⟨Nat.le_of_ble_eq_true rfl, Nat.le_of_ble_eq_true rfl⟩ (cwG (i := i) hi) rfl rfl rfl hl.1 rfl (Nat.le_of_ble_eq_true rfl) dX3_addLine_53 (fun o w' H locs hp hB => ?_)
            obtain ⟨f25, rfl, rfl⟩ := hp
            refine W.eq (g2 := F0 m 56 ls []) rfl ?_
            refine lv_goto (tgt := 84) hx hb dX3_addLine_56 (by decide) ?_
            refine lv_iinc (v := y7_20 + 1) (lv' := [(7, .int (y7_20 + 1)), (6, .int (r (2 * i + 1))), (0, .ref (a (6 + 2 * i))), (1, .int p0), (2, .int p1), (3, .int p2), (4, .long p3)]) hx hb dX3_addLine_84 hl (k := 0) rfl rfl (by decide) rfl (fun ls hl => ?_)
            refine lv_goto (tgt := 20) hx hb dX3_addLine_87 (by decide) ?_
            exact ih20 (y7_20 + 1) f25 _ _  (gap_step c18 hμ20) hB _ hl
    exact lp20 _ 0 f _ _  (Nat.lt_succ_self _) hB _ hl
  · refine lv_aload_n hx hb dX3_addLine_4 rfl (lv_at hl 0 rfl) ?_
    refine gf hX hB (cwG (i := i) hi) rfl in3 1 (by decide) wm_1_46 rfl rfl dX3_addLine_5 ?_
    refine lv_goto (tgt := 15) hx hb dX3_addLine_8 (by decide) ?_
    refine lv_istore (lv' := [(6, .int (r (2 * i))), (0, .ref (a (6 + 2 * i))), (1, .int p0), (2, .int p1), (3, .int p2), (4, .long p3)]) hx hb dX3_addLine_15 hl (by decide) rfl (fun ls hl => ?_)
    refine lv_iconst (v := 0) hx hb dX3_addLine_17 (by decide) ?_
    refine lv_istore (lv' := [(7, .int 0), (6, .int (r (2 * i))), (0, .ref (a (6 + 2 * i))), (1, .int p0), (2, .int p1), (3, .int p2), (4, .long p3)]) hx hb dX3_addLine_18 hl (by decide) rfl (fun ls hl => ?_)
    have lp20 : ∀ (nn : Nat) (y7_20 : Int32) (f_20 : Nat → Nat → Int64) (H : Heap) (locs : List Loc), gap (r (2 * i)) y7_20 < nn → Bd κ A s (cw κ a r q f_20) H locs → ∀ ls : Array Slot, lv_has ls 8 [(7, .int y7_20), (6, .int (r (2 * i))), (0, .ref (a (6 + 2 * i))), (1, .int p0), (2, .int p1), (3, .int p2), (4, .long p3)] → W p l e (Rm 1 24 0 0) s m args below meth c H locs 0 0 Q (F0 m 20 ls []) := by
      intro nn
      induction nn with
      | zero => intro y7_20 f_20 H locs hμ; exact absurd hμ (Nat.not_lt_zero _)
      | succ nn ih20 =>
        intro y7_20 f_20 H locs hμ20 hB ls hl
        refine lv_iload hx hb dX3_addLine_20 (lv_at hl 0 rfl) ?_
        refine lv_iload hx hb dX3_addLine_22 (lv_at hl 1 rfl) ?_
        refine lv_icmp_ge (tgt := 90) hx hb dX3_addLine_24 (by decide) (fun c42 => ?_) (fun c42 => ?_)
        · rw [← hQ]
          exact end_v hX hB hA3 rfl ⟨_, rfl, rfl⟩ (Nat.le_of_ble_eq_true rfl) (Nat.le_of_ble_eq_true rfl) dX3_addLine_90
        · refine lv_iload_n hx hb dX3_addLine_27 rfl (lv_at hl 3 rfl) ?_
          refine lv_if_eq (tgt := 59) hx hb dX3_addLine_28 (by decide) (fun c43 => ?_) (fun c43 => ?_)
          · refine lv_aload_n hx hb dX3_addLine_59 rfl (lv_at hl 2 rfl) ?_
            refine lv_iload_n hx hb dX3_addLine_60 rfl (lv_at hl 4 rfl) ?_
            refine lv_iload hx hb dX3_addLine_61 (lv_at hl 0 rfl) ?_
            refine lv_aload_n hx hb dX3_addLine_63 rfl (lv_at hl 2 rfl) ?_
            refine lv_iload_n hx hb dX3_addLine_64 rfl (lv_at hl 4 rfl) ?_
            refine lv_iload hx hb dX3_addLine_65 (lv_at hl 0 rfl) ?_
            refine call_V (n := 2) (As := [.int p1, .int y7_20]) (rest := [.int y7_20, .int p1, .ref (a (6 + 2 * i))]) hX hB (k_X3_get κ l a r q f_20 i p1 y7_20 hi) ⟨rfl, by decide, by decide, by decide +kernel⟩ wm_2_7 wm_1_187 wm_1_188 wm_1_2 wm_1_189 ⟨Nat.le_of_ble_eq_true rfl, Nat.le_of_ble_eq_true rfl⟩ ⟨Nat.le_of_ble_eq_true rfl, Nat.le_of_ble_eq_true rfl⟩ (cwG (i := i) hi) rfl rfl rfl hl.1 rfl (Nat.le_of_ble_eq_true rfl) dX3_addLine_67 (fun o w' H locs hp hB => ?_)
            obtain ⟨x44, rfl, rfl⟩ := hp
            refine W.eq (g2 := F0 m 70 ls [.long x44, .int y7_20, .int p1, .ref (a (6 + 2 * i))]) rfl ?_
            refine lv_lload hx hb dX3_addLine_70 (lv_at hl 6 rfl) ?_
            refine lv_aload_n hx hb dX3_addLine_72 rfl (lv_at hl 2 rfl) ?_
            refine lv_iload_n hx hb dX3_addLine_73 rfl (lv_at hl 5 rfl) ?_
            refine lv_iload hx hb dX3_addLine_74 (lv_at hl 0 rfl) ?_
            refine call_V (n := 2) (As := [.int p2, .int y7_20]) (rest := [.long p3, .long x44, .int y7_20, .int p1, .ref (a (6 + 2 * i))]) hX hB (k_X3_get κ l a r q f_20 i p2 y7_20 hi) ⟨rfl, by decide, by decide, by decide +kernel⟩ wm_2_7 wm_1_187 wm_1_188 wm_1_2 wm_1_189 ⟨Nat.le_of_ble_eq_true rfl, Nat.le_of_ble_eq_true rfl⟩ ⟨Nat.le_of_ble_eq_true rfl, Nat.le_of_ble_eq_true rfl⟩ (cwG (i := i) hi) rfl rfl rfl hl.1 rfl (Nat.le_of_ble_eq_true rfl) dX3_addLine_76 (fun o w' H locs hp hB => ?_)
            obtain ⟨x45, rfl, rfl⟩ := hp
            refine W.eq (g2 := F0 m 79 ls [.long x45, .long p3, .long x44, .int y7_20, .int p1, .ref (a (6 + 2 * i))]) rfl ?_
            refine lv_lmul hx hb dX3_addLine_79 ?_
            refine lv_ladd hx hb dX3_addLine_80 ?_
            refine call_V (n := 3) (As := [.int p1, .int y7_20, .long (x44 + (p3 * x45))]) (rest := []) hX hB (k_X3_set κ l a r q f_20 i p1 y7_20 (x44 + (p3 * x45)) hi) ⟨rfl, by decide, by decide, by decide +kernel⟩ wm_1_222 wm_1_223 wm_1_224 wm_1_2 wm_1_225 ⟨Nat.le_of_ble_eq_true rfl, Nat.le_of_ble_eq_true rfl⟩ ⟨Nat.le_of_ble_eq_true rfl, Nat.le_of_ble_eq_true rfl⟩ (cwG (i := i) hi) rfl rfl rfl hl.1 rfl (Nat.le_of_ble_eq_true rfl) dX3_addLine_81 (fun o w' H locs hp hB => ?_)
            obtain ⟨f46, rfl, rfl⟩ := hp
            refine W.eq (g2 := F0 m 84 ls []) rfl ?_
            refine lv_iinc (v := y7_20 + 1) (lv' := [(7, .int (y7_20 + 1)), (6, .int (r (2 * i))), (0, .ref (a (6 + 2 * i))), (1, .int p0), (2, .int p1), (3, .int p2), (4, .long p3)]) hx hb dX3_addLine_84 hl (k := 0) rfl rfl (by decide) rfl (fun ls hl => ?_)
            refine lv_goto (tgt := 20) hx hb dX3_addLine_87 (by decide) ?_
            exact ih20 (y7_20 + 1) f46 _ _  (gap_step c42 hμ20) hB _ hl
          · refine lv_aload_n hx hb dX3_addLine_31 rfl (lv_at hl 2 rfl) ?_
            refine lv_iload hx hb dX3_addLine_32 (lv_at hl 0 rfl) ?_
            refine lv_iload_n hx hb dX3_addLine_34 rfl (lv_at hl 4 rfl) ?_
            refine lv_aload_n hx hb dX3_addLine_35 rfl (lv_at hl 2 rfl) ?_
            refine lv_iload hx hb dX3_addLine_36 (lv_at hl 0 rfl) ?_
            refine lv_iload_n hx hb dX3_addLine_38 rfl (lv_at hl 4 rfl) ?_
            refine call_V (n := 2) (As := [.int y7_20, .int p1]) (rest := [.int p1, .int y7_20, .ref (a (6 + 2 * i))]) hX hB (k_X3_get κ l a r q f_20 i y7_20 p1 hi) ⟨rfl, by decide, by decide, by decide +kernel⟩ wm_2_7 wm_1_187 wm_1_188 wm_1_2 wm_1_189 ⟨Nat.le_of_ble_eq_true rfl, Nat.le_of_ble_eq_true rfl⟩ ⟨Nat.le_of_ble_eq_true rfl, Nat.le_of_ble_eq_true rfl⟩ (cwG (i := i) hi) rfl rfl rfl hl.1 rfl (Nat.le_of_ble_eq_true rfl) dX3_addLine_39 (fun o w' H locs hp hB => ?_)
            obtain ⟨x47, rfl, rfl⟩ := hp
            refine W.eq (g2 := F0 m 42 ls [.long x47, .int p1, .int y7_20, .ref (a (6 + 2 * i))]) rfl ?_
            refine lv_lload hx hb dX3_addLine_42 (lv_at hl 6 rfl) ?_
            refine lv_aload_n hx hb dX3_addLine_44 rfl (lv_at hl 2 rfl) ?_
            refine lv_iload hx hb dX3_addLine_45 (lv_at hl 0 rfl) ?_
            refine lv_iload_n hx hb dX3_addLine_47 rfl (lv_at hl 5 rfl) ?_
            refine call_V (n := 2) (As := [.int y7_20, .int p2]) (rest := [.long p3, .long x47, .int p1, .int y7_20, .ref (a (6 + 2 * i))]) hX hB (k_X3_get κ l a r q f_20 i y7_20 p2 hi) ⟨rfl, by decide, by decide, by decide +kernel⟩ wm_2_7 wm_1_187 wm_1_188 wm_1_2 wm_1_189 ⟨Nat.le_of_ble_eq_true rfl, Nat.le_of_ble_eq_true rfl⟩ ⟨Nat.le_of_ble_eq_true rfl, Nat.le_of_ble_eq_true rfl⟩ (cwG (i := i) hi) rfl rfl rfl hl.1 rfl (Nat.le_of_ble_eq_true rfl) dX3_addLine_48 (fun o w' H locs hp hB => ?_)
            obtain ⟨x48, rfl, rfl⟩ := hp
            refine W.eq (g2 := F0 m 51 ls [.long x48, .long p3, .long x47, .int p1, .int y7_20, .ref (a (6 + 2 * i))]) rfl ?_
            refine lv_lmul hx hb dX3_addLine_51 ?_
            refine lv_ladd hx hb dX3_addLine_52 ?_
            refine call_V (n := 3) (As := [.int y7_20, .int p1, .long (x47 + (p3 * x48))]) (rest := []) hX hB (k_X3_set κ l a r q f_20 i y7_20 p1 (x47 + (p3 * x48)) hi) ⟨rfl, by decide, by decide, by decide +kernel⟩ wm_1_222 wm_1_223 wm_1_224 wm_1_2 wm_1_225 ⟨Nat.le_of_ble_eq_true rfl, Nat.le_of_ble_eq_true rfl⟩ ⟨Nat.le_of_ble_eq_true rfl, Nat.le_of_ble_eq_true rfl⟩ (cwG (i := i) hi) rfl rfl rfl hl.1 rfl (Nat.le_of_ble_eq_true rfl) dX3_addLine_53 (fun o w' H locs hp hB => ?_)
            obtain ⟨f49, rfl, rfl⟩ := hp
            refine W.eq (g2 := F0 m 56 ls []) rfl ?_
            refine lv_goto (tgt := 84) hx hb dX3_addLine_56 (by decide) ?_
            refine lv_iinc (v := y7_20 + 1) (lv' := [(7, .int (y7_20 + 1)), (6, .int (r (2 * i))), (0, .ref (a (6 + 2 * i))), (1, .int p0), (2, .int p1), (3, .int p2), (4, .long p3)]) hx hb dX3_addLine_84 hl (k := 0) rfl rfl (by decide) rfl (fun ls hl => ?_)
            refine lv_goto (tgt := 20) hx hb dX3_addLine_87 (by decide) ?_
            exact ih20 (y7_20 + 1) f49 _ _  (gap_step c42 hμ20) hB _ hl
    exact lp20 _ 0 f _ _  (Nat.lt_succ_self _) hB _ hl
set_option maxHeartbeats 4000000 in
set_option maxRecDepth 100000 in
theorem k_X3_countUnlike (κ : Kt) (l : Launch) (a : Nat → Nat) (r q : Nat → Int32) (f : Nat → Nat → Int64) (i : Nat) (j : Nat) (hi : i < 15) (hj : j < 15) : CM κ l yX3_countUnlike cX3_countUnlike 5 (some .int) 1 22 0 0 [.ref (a (6 + 2 * i)), .ref (a (6 + 2 * j))] (cw κ a r q f) (fun o w' => ∃ x : Int32, o = some (.int x) ∧ w' = cw κ a r q f) := by
  refine CM_begin (plainFor_of_name (by decide)) (Nat.le_of_ble_eq_true rfl) ?_
  intro p e s m args below meth c A Q hX hnm hA3 hQ hB ls hl
  have hx := hX.1.1
  have hb := hX.1.2.1
  have hl : lv_has ls 5 [(0, .ref (a (6 + 2 * i))), (1, .ref (a (6 + 2 * j)))] := hl
  refine lv_iconst (v := 0) hx hb dX3_countUnlike_0 (by decide) ?_
  refine lv_istore_n (lv' := [(2, .int 0), (0, .ref (a (6 + 2 * i))), (1, .ref (a (6 + 2 * j)))]) hx hb dX3_countUnlike_1 rfl hl (by decide) rfl (fun ls hl => ?_)
  refine lv_iconst (v := 0) hx hb dX3_countUnlike_2 (by decide) ?_
  refine lv_istore_n (lv' := [(3, .int 0), (2, .int 0), (0, .ref (a (6 + 2 * i))), (1, .ref (a (6 + 2 * j)))]) hx hb dX3_countUnlike_3 rfl hl (by decide) rfl (fun ls hl => ?_)
  have lp4 : ∀ (nn : Nat) (y3_4 : Int32) (y2_4 : Int32) (H : Heap) (locs : List Loc), gap (r (2 * i)) y3_4 < nn → Bd κ A s (cw κ a r q f) H locs → ∀ ls : Array Slot, lv_has ls 5 [(3, .int y3_4), (2, .int y2_4), (0, .ref (a (6 + 2 * i))), (1, .ref (a (6 + 2 * j)))] → W p l e (Rm 1 22 0 0) s m args below meth c H locs 0 0 Q (F0 m 4 ls []) := by
    intro nn
    induction nn with
    | zero => intro y3_4 y2_4 H locs hμ; exact absurd hμ (Nat.not_lt_zero _)
    | succ nn ih4 =>
      intro y3_4 y2_4 H locs hμ4 hB ls hl
      refine lv_iload_n hx hb dX3_countUnlike_4 rfl (lv_at hl 0 rfl) ?_
      refine lv_aload_n hx hb dX3_countUnlike_5 rfl (lv_at hl 2 rfl) ?_
      refine gf hX hB (cwG (i := i) hi) rfl in3 1 (by decide) wm_1_46 rfl rfl dX3_countUnlike_6 ?_
      refine lv_icmp_ge (tgt := 57) hx hb dX3_countUnlike_9 (by decide) (fun c27 => ?_) (fun c27 => ?_)
      · refine lv_iload_n hx hb dX3_countUnlike_57 rfl (lv_at hl 1 rfl) ?_
        rw [← hQ]
        exact end_i hX hB hA3 rfl rfl ⟨_, rfl, rfl⟩ (Nat.le_of_ble_eq_true rfl) (Nat.le_of_ble_eq_true rfl) dX3_countUnlike_58
      · refine lv_iconst (v := 0) hx hb dX3_countUnlike_12 (by decide) ?_
        refine lv_istore (lv' := [(4, .int 0), (3, .int y3_4), (2, .int y2_4), (0, .ref (a (6 + 2 * i))), (1, .ref (a (6 + 2 * j)))]) hx hb dX3_countUnlike_13 hl (by decide) rfl (fun ls hl => ?_)
        have lp15 : ∀ (nn : Nat) (y4_15 : Int32) (y2_15 : Int32) (H : Heap) (locs : List Loc), gap (r (2 * i + 1)) y4_15 < nn → Bd κ A s (cw κ a r q f) H locs → ∀ ls : Array Slot, lv_has ls 5 [(4, .int y4_15), (3, .int y3_4), (2, .int y2_15), (0, .ref (a (6 + 2 * i))), (1, .ref (a (6 + 2 * j)))] → W p l e (Rm 1 22 0 0) s m args below meth c H locs 0 0 Q (F0 m 15 ls []) := by
          intro nn
          induction nn with
          | zero => intro y4_15 y2_15 H locs hμ; exact absurd hμ (Nat.not_lt_zero _)
          | succ nn ih15 =>
            intro y4_15 y2_15 H locs hμ15 hB ls hl
            refine lv_iload hx hb dX3_countUnlike_15 (lv_at hl 0 rfl) ?_
            refine lv_aload_n hx hb dX3_countUnlike_17 rfl (lv_at hl 3 rfl) ?_
            refine gf hX hB (cwG (i := i) hi) rfl in3 2 (by decide) wm_1_52 rfl rfl dX3_countUnlike_18 ?_
            refine lv_icmp_ge (tgt := 51) hx hb dX3_countUnlike_21 (by decide) (fun c36 => ?_) (fun c36 => ?_)
            · refine lv_iinc (v := y3_4 + 1) (lv' := [(3, .int (y3_4 + 1)), (4, .int y4_15), (2, .int y2_15), (0, .ref (a (6 + 2 * i))), (1, .ref (a (6 + 2 * j)))]) hx hb dX3_countUnlike_51 hl (k := 1) rfl rfl (by decide) rfl (fun ls hl => ?_)
              refine lv_goto (tgt := 4) hx hb dX3_countUnlike_54 (by decide) ?_
              exact ih4 (y3_4 + 1) y2_15 _ _  (gap_step c27 hμ4) hB _ (lv_sub hl [0, 2, 3, 4] rfl)
            · refine lv_aload_n hx hb dX3_countUnlike_24 rfl (lv_at hl 3 rfl) ?_
              refine lv_iload_n hx hb dX3_countUnlike_25 rfl (lv_at hl 1 rfl) ?_
              refine lv_iload hx hb dX3_countUnlike_26 (lv_at hl 0 rfl) ?_
              refine call_V (n := 2) (As := [.int y3_4, .int y4_15]) (rest := []) hX hB (k_X3_get κ l a r q f i y3_4 y4_15 hi) ⟨rfl, by decide, by decide, by decide +kernel⟩ wm_2_7 wm_1_187 wm_1_188 wm_1_2 wm_1_189 ⟨Nat.le_of_ble_eq_true rfl, Nat.le_of_ble_eq_true rfl⟩ ⟨Nat.le_of_ble_eq_true rfl, Nat.le_of_ble_eq_true rfl⟩ (cwG (i := i) hi) rfl rfl rfl hl.1 rfl (Nat.le_of_ble_eq_true rfl) dX3_countUnlike_28 (fun o w' H locs hp hB => ?_)
              obtain ⟨x37, rfl, rfl⟩ := hp
              refine W.eq (g2 := F0 m 31 ls [.long x37]) rfl ?_
              refine lv_aload_n hx hb dX3_countUnlike_31 rfl (lv_at hl 4 rfl) ?_
              refine lv_iload_n hx hb dX3_countUnlike_32 rfl (lv_at hl 1 rfl) ?_
              refine lv_iload hx hb dX3_countUnlike_33 (lv_at hl 0 rfl) ?_
              refine call_V (n := 2) (As := [.int y3_4, .int y4_15]) (rest := [.long x37]) hX hB (k_X3_get κ l a r q f j y3_4 y4_15 hj) ⟨rfl, by decide, by decide, by decide +kernel⟩ wm_2_7 wm_1_187 wm_1_188 wm_1_2 wm_1_189 ⟨Nat.le_of_ble_eq_true rfl, Nat.le_of_ble_eq_true rfl⟩ ⟨Nat.le_of_ble_eq_true rfl, Nat.le_of_ble_eq_true rfl⟩ (cwG (i := j) hj) rfl rfl rfl hl.1 rfl (Nat.le_of_ble_eq_true rfl) dX3_countUnlike_35 (fun o w' H locs hp hB => ?_)
              obtain ⟨x38, rfl, rfl⟩ := hp
              refine W.eq (g2 := F0 m 38 ls [.long x38, .long x37]) rfl ?_
              refine W.lcmp hx hb dX3_countUnlike_38 ?_
              refine lv_if_eq (tgt := 45) hx hb dX3_countUnlike_39 (by decide) (fun c39 => ?_) (fun c39 => ?_)
              · refine lv_iinc (v := y4_15 + 1) (lv' := [(4, .int (y4_15 + 1)), (3, .int y3_4), (2, .int y2_15), (0, .ref (a (6 + 2 * i))), (1, .ref (a (6 + 2 * j)))]) hx hb dX3_countUnlike_45 hl (k := 0) rfl rfl (by decide) rfl (fun ls hl => ?_)
                refine lv_goto (tgt := 15) hx hb dX3_countUnlike_48 (by decide) ?_
                exact ih15 (y4_15 + 1) y2_15 _ _  (gap_step c36 hμ15) hB _ hl
              · refine lv_iinc (v := y2_15 + 1) (lv' := [(2, .int (y2_15 + 1)), (4, .int y4_15), (3, .int y3_4), (0, .ref (a (6 + 2 * i))), (1, .ref (a (6 + 2 * j)))]) hx hb dX3_countUnlike_42 hl (k := 2) rfl rfl (by decide) rfl (fun ls hl => ?_)
                refine lv_iinc (v := y4_15 + 1) (lv' := [(4, .int (y4_15 + 1)), (2, .int (y2_15 + 1)), (3, .int y3_4), (0, .ref (a (6 + 2 * i))), (1, .ref (a (6 + 2 * j)))]) hx hb dX3_countUnlike_45 hl (k := 1) rfl rfl (by decide) rfl (fun ls hl => ?_)
                refine lv_goto (tgt := 15) hx hb dX3_countUnlike_48 (by decide) ?_
                exact ih15 (y4_15 + 1) (y2_15 + 1) _ _  (gap_step c36 hμ15) hB _ (lv_sub hl [0, 2, 1, 3, 4] rfl)
        exact lp15 _ 0 y2_4 _ _  (Nat.lt_succ_self _) hB _ hl
  exact lp4 _ 0 0 _ _  (Nat.lt_succ_self _) hB _ hl
set_option maxHeartbeats 4000000 in
set_option maxRecDepth 100000 in
theorem k_X3_isLike (κ : Kt) (l : Launch) (a : Nat → Nat) (r q : Nat → Int32) (f : Nat → Nat → Int64) (i : Nat) (j : Nat) (hi : i < 15) (hj : j < 15) : CM κ l yX3_isLike cX3_isLike 2 (some .boolean) 2 46 0 0 [.ref (a (6 + 2 * i)), .ref (a (6 + 2 * j))] (cw κ a r q f) (fun o w' => ∃ x : Int32, o = some (.int x) ∧ (x = 0 ∨ x = 1) ∧ w' = cw κ a r q f) := by
  refine CM_begin (plainFor_of_name (by decide)) (Nat.le_of_ble_eq_true rfl) ?_
  intro p e s m args below meth c A Q hX hnm hA3 hQ hB ls hl
  have hx := hX.1.1
  have hb := hX.1.2.1
  have hl : lv_has ls 2 [(0, .ref (a (6 + 2 * i))), (1, .ref (a (6 + 2 * j)))] := hl
  refine lv_aload_n hx hb dX3_isLike_0 rfl (lv_at hl 0 rfl) ?_
  refine gf hX hB (cwG (i := i) hi) rfl in3 1 (by decide) wm_1_46 rfl rfl dX3_isLike_1 ?_
  refine lv_aload_n hx hb dX3_isLike_4 rfl (lv_at hl 1 rfl) ?_
  refine gf hX hB (cwG (i := j) hj) rfl in3 1 (by decide) wm_1_46 rfl rfl dX3_isLike_5 ?_
  refine lv_icmp_ne (tgt := 34) hx hb dX3_isLike_8 (by decide) (fun c1 => ?_) (fun c1 => ?_)
  · refine lv_iconst (v := 0) hx hb dX3_isLike_34 (by decide) ?_
    rw [← hQ]
    exact end_i hX hB hA3 rfl rfl ⟨_, rfl, Or.inl rfl, rfl⟩ (Nat.le_of_ble_eq_true rfl) (Nat.le_of_ble_eq_true rfl) dX3_isLike_35
  · refine lv_aload_n hx hb dX3_isLike_11 rfl (lv_at hl 0 rfl) ?_
    refine gf hX hB (cwG (i := i) hi) rfl in3 2 (by decide) wm_1_52 rfl rfl dX3_isLike_12 ?_
    refine lv_aload_n hx hb dX3_isLike_15 rfl (lv_at hl 1 rfl) ?_
    refine gf hX hB (cwG (i := j) hj) rfl in3 2 (by decide) wm_1_52 rfl rfl dX3_isLike_16 ?_
    refine lv_icmp_ne (tgt := 34) hx hb dX3_isLike_19 (by decide) (fun c2 => ?_) (fun c2 => ?_)
    · refine lv_iconst (v := 0) hx hb dX3_isLike_34 (by decide) ?_
      rw [← hQ]
      exact end_i hX hB hA3 rfl rfl ⟨_, rfl, Or.inl rfl, rfl⟩ (Nat.le_of_ble_eq_true rfl) (Nat.le_of_ble_eq_true rfl) dX3_isLike_35
    · refine lv_aload_n hx hb dX3_isLike_22 rfl (lv_at hl 0 rfl) ?_
      refine lv_aload_n hx hb dX3_isLike_23 rfl (lv_at hl 1 rfl) ?_
      refine call_V (n := 1) (As := [.ref (a (6 + 2 * j))]) (rest := []) hX hB (k_X3_countUnlike κ l a r q f i j hi hj) ⟨rfl, by decide, by decide, by decide +kernel⟩ wm_2_48 wm_2_49 wm_2_50 wm_1_2 wm_2_51 ⟨Nat.le_of_ble_eq_true rfl, Nat.le_of_ble_eq_true rfl⟩ ⟨Nat.le_of_ble_eq_true rfl, Nat.le_of_ble_eq_true rfl⟩ (cwG (i := i) hi) rfl rfl rfl hl.1 rfl (Nat.le_of_ble_eq_true rfl) dX3_isLike_24 (fun o w' H locs hp hB => ?_)
      obtain ⟨x3, rfl, rfl⟩ := hp
      refine W.eq (g2 := F0 m 27 ls [.int x3]) rfl ?_
      refine lv_if_ne (tgt := 34) hx hb dX3_isLike_27 (by decide) (fun c4 => ?_) (fun c4 => ?_)
      · refine lv_iconst (v := 0) hx hb dX3_isLike_34 (by decide) ?_
        rw [← hQ]
        exact end_i hX hB hA3 rfl rfl ⟨_, rfl, Or.inl rfl, rfl⟩ (Nat.le_of_ble_eq_true rfl) (Nat.le_of_ble_eq_true rfl) dX3_isLike_35
      · refine lv_iconst (v := 1) hx hb dX3_isLike_30 (by decide) ?_
        refine lv_goto (tgt := 35) hx hb dX3_isLike_31 (by decide) ?_
        rw [← hQ]
        exact end_i hX hB hA3 rfl rfl ⟨_, rfl, Or.inr rfl, rfl⟩ (Nat.le_of_ble_eq_true rfl) (Nat.le_of_ble_eq_true rfl) dX3_isLike_35
set_option maxHeartbeats 4000000 in
set_option maxRecDepth 100000 in
theorem k_X3_isWithin (κ : Kt) (l : Launch) (a : Nat → Nat) (r q : Nat → Int32) (f : Nat → Nat → Int64) (i : Nat) (p0 : Int64) (hi : i < 15) : CM κ l yX3_isWithin cX3_isWithin 5 (some .boolean) 1 22 0 0 [.ref (a (6 + 2 * i)), .long p0] (cw κ a r q f) (fun o w' => ∃ x : Int32, o = some (.int x) ∧ (x = 0 ∨ x = 1) ∧ w' = cw κ a r q f) := by
  refine CM_begin (plainFor_of_name (by decide)) (Nat.le_of_ble_eq_true rfl) ?_
  intro p e s m args below meth c A Q hX hnm hA3 hQ hB ls hl
  have hx := hX.1.1
  have hb := hX.1.2.1
  have hl : lv_has ls 5 [(0, .ref (a (6 + 2 * i))), (1, .long p0)] := hl
  refine lv_iconst (v := 0) hx hb dX3_isWithin_0 (by decide) ?_
  refine lv_istore_n (lv' := [(3, .int 0), (0, .ref (a (6 + 2 * i))), (1, .long p0)]) hx hb dX3_isWithin_1 rfl hl (by decide) rfl (fun ls hl => ?_)
  have lp2 : ∀ (nn : Nat) (y3_2 : Int32) (H : Heap) (locs : List Loc), gap (r (2 * i)) y3_2 < nn → Bd κ A s (cw κ a r q f) H locs → ∀ ls : Array Slot, lv_has ls 5 [(3, .int y3_2), (0, .ref (a (6 + 2 * i))), (1, .long p0)] → W p l e (Rm 1 22 0 0) s m args below meth c H locs 0 0 Q (F0 m 2 ls []) := by
    intro nn
    induction nn with
    | zero => intro y3_2 H locs hμ; exact absurd hμ (Nat.not_lt_zero _)
    | succ nn ih2 =>
      intro y3_2 H locs hμ2 hB ls hl
      refine lv_iload_n hx hb dX3_isWithin_2 rfl (lv_at hl 0 rfl) ?_
      refine lv_aload_n hx hb dX3_isWithin_3 rfl (lv_at hl 1 rfl) ?_
      refine gf hX hB (cwG (i := i) hi) rfl in3 1 (by decide) wm_1_46 rfl rfl dX3_isWithin_4 ?_
      refine lv_icmp_ge (tgt := 51) hx hb dX3_isWithin_7 (by decide) (fun c27 => ?_) (fun c27 => ?_)
      · refine lv_iconst (v := 1) hx hb dX3_isWithin_51 (by decide) ?_
        rw [← hQ]
        exact end_i hX hB hA3 rfl rfl ⟨_, rfl, Or.inr rfl, rfl⟩ (Nat.le_of_ble_eq_true rfl) (Nat.le_of_ble_eq_true rfl) dX3_isWithin_52
      · refine lv_iconst (v := 0) hx hb dX3_isWithin_10 (by decide) ?_
        refine lv_istore (lv' := [(4, .int 0), (3, .int y3_2), (0, .ref (a (6 + 2 * i))), (1, .long p0)]) hx hb dX3_isWithin_11 hl (by decide) rfl (fun ls hl => ?_)
        have lp13 : ∀ (nn : Nat) (y4_13 : Int32) (H : Heap) (locs : List Loc), gap (r (2 * i + 1)) y4_13 < nn → Bd κ A s (cw κ a r q f) H locs → ∀ ls : Array Slot, lv_has ls 5 [(4, .int y4_13), (3, .int y3_2), (0, .ref (a (6 + 2 * i))), (1, .long p0)] → W p l e (Rm 1 22 0 0) s m args below meth c H locs 0 0 Q (F0 m 13 ls []) := by
          intro nn
          induction nn with
          | zero => intro y4_13 H locs hμ; exact absurd hμ (Nat.not_lt_zero _)
          | succ nn ih13 =>
            intro y4_13 H locs hμ13 hB ls hl
            refine lv_iload hx hb dX3_isWithin_13 (lv_at hl 0 rfl) ?_
            refine lv_aload_n hx hb dX3_isWithin_15 rfl (lv_at hl 2 rfl) ?_
            refine gf hX hB (cwG (i := i) hi) rfl in3 2 (by decide) wm_1_52 rfl rfl dX3_isWithin_16 ?_
            refine lv_icmp_ge (tgt := 45) hx hb dX3_isWithin_19 (by decide) (fun c36 => ?_) (fun c36 => ?_)
            · refine lv_iinc (v := y3_2 + 1) (lv' := [(3, .int (y3_2 + 1)), (4, .int y4_13), (0, .ref (a (6 + 2 * i))), (1, .long p0)]) hx hb dX3_isWithin_45 hl (k := 1) rfl rfl (by decide) rfl (fun ls hl => ?_)
              refine lv_goto (tgt := 2) hx hb dX3_isWithin_48 (by decide) ?_
              exact ih2 (y3_2 + 1) _ _  (gap_step c27 hμ2) hB _ (lv_sub hl [0, 2, 3] rfl)
            · refine lv_aload_n hx hb dX3_isWithin_22 rfl (lv_at hl 2 rfl) ?_
              refine lv_iload_n hx hb dX3_isWithin_23 rfl (lv_at hl 1 rfl) ?_
              refine lv_iload hx hb dX3_isWithin_24 (lv_at hl 0 rfl) ?_
              refine call_V (n := 2) (As := [.int y3_2, .int y4_13]) (rest := []) hX hB (k_X3_get κ l a r q f i y3_2 y4_13 hi) ⟨rfl, by decide, by decide, by decide +kernel⟩ wm_2_7 wm_1_187 wm_1_188 wm_1_2 wm_1_189 ⟨Nat.le_of_ble_eq_true rfl, Nat.le_of_ble_eq_true rfl⟩ ⟨Nat.le_of_ble_eq_true rfl, Nat.le_of_ble_eq_true rfl⟩ (cwG (i := i) hi) rfl rfl rfl hl.1 rfl (Nat.le_of_ble_eq_true rfl) dX3_isWithin_26 (fun o w' H locs hp hB => ?_)
              obtain ⟨x37, rfl, rfl⟩ := hp
              refine W.eq (g2 := F0 m 29 ls [.long x37]) rfl ?_
              refine va_mabs_long hx hb (by rw [hX.1.2.2.1]; exact hl.1.symm) hX.1.2.2.2.1 (hX.1.2.2.2.2 _ wm_2_31) (hX.1.2.2.2.2 _ wm_1_237) (hX.1.2.2.2.2 _ wm_1_14) (hX.1.2.2.2.2 _ wm_1_238) (Nat.le_of_ble_eq_true rfl) (Nat.le_of_ble_eq_true rfl) (Nat.le_of_ble_eq_true rfl) (Nat.le_of_ble_eq_true rfl) dX3_isWithin_29 ?_
              refine lv_topl (fun t38 et38 => ?_)
              refine lv_lload_n hx hb dX3_isWithin_32 rfl (lv_at hl 3 rfl) ?_
              refine W.lcmp hx hb dX3_isWithin_33 ?_
              refine lv_if_le (tgt := 39) hx hb dX3_isWithin_34 (by decide) (fun c39 => ?_) (fun c39 => ?_)
              · refine lv_iinc (v := y4_13 + 1) (lv' := [(4, .int (y4_13 + 1)), (3, .int y3_2), (0, .ref (a (6 + 2 * i))), (1, .long p0)]) hx hb dX3_isWithin_39 hl (k := 0) rfl rfl (by decide) rfl (fun ls hl => ?_)
                refine lv_goto (tgt := 13) hx hb dX3_isWithin_42 (by decide) ?_
                exact ih13 (y4_13 + 1) _ _  (gap_step c36 hμ13) hB _ hl
              · refine lv_iconst (v := 0) hx hb dX3_isWithin_37 (by decide) ?_
                rw [← hQ]
                exact end_i hX hB hA3 rfl rfl ⟨_, rfl, Or.inl rfl, rfl⟩ (Nat.le_of_ble_eq_true rfl) (Nat.le_of_ble_eq_true rfl) dX3_isWithin_38
        exact lp13 _ 0 _ _  (Nat.lt_succ_self _) hB _ hl
  exact lp2 _ 0 _ _  (Nat.lt_succ_self _) hB _ hl
set_option maxHeartbeats 4000000 in
set_option maxRecDepth 100000 in
theorem k_X3_mix (κ : Kt) (l : Launch) (a : Nat → Nat) (r q : Nat → Int32) (f : Nat → Nat → Int64) (i : Nat) (p0 : Int64) (hi : i < 15) : CM κ l yX3_mix cX3_mix 7 (some .long) 1 22 0 0 [.ref (a (6 + 2 * i)), .long p0] (cw κ a r q f) (fun o w' => ∃ x : Int64, o = some (.long x) ∧ w' = cw κ a r q f) := by
  refine CM_begin (plainFor_of_name (by decide)) (Nat.le_of_ble_eq_true rfl) ?_
  intro p e s m args below meth c A Q hX hnm hA3 hQ hB ls hl
  have hx := hX.1.1
  have hb := hX.1.2.1
  have hl : lv_has ls 7 [(0, .ref (a (6 + 2 * i))), (1, .long p0)] := hl
  refine lv_lload_n hx hb dX3_mix_0 rfl (lv_at hl 1 rfl) ?_
  refine lv_ldc2 (own := RX3) (v := 31) hx hb hX.1.2.2.2.1 (hX.1.2.2.2.2 _ wm_2_133) dX3_mix_1 ?_
  refine lv_lmul hx hb dX3_mix_4 ?_
  refine lv_aload_n hx hb dX3_mix_5 rfl (lv_at hl 0 rfl) ?_
  refine gf hX hB (cwG (i := i) hi) rfl in3 1 (by decide) wm_1_46 rfl rfl dX3_mix_6 ?_
  refine lv_i2l hx hb dX3_mix_9 rfl ?_
  refine lv_ladd hx hb dX3_mix_10 ?_
  refine lv_ldc2 (own := RX3) (v := 31) hx hb hX.1.2.2.2.1 (hX.1.2.2.2.2 _ wm_2_133) dX3_mix_11 ?_
  refine lv_lmul hx hb dX3_mix_14 ?_
  refine lv_aload_n hx hb dX3_mix_15 rfl (lv_at hl 0 rfl) ?_
  refine gf hX hB (cwG (i := i) hi) rfl in3 2 (by decide) wm_1_52 rfl rfl dX3_mix_16 ?_
  refine lv_i2l hx hb dX3_mix_19 rfl ?_
  refine lv_ladd hx hb dX3_mix_20 ?_
  refine lv_lstore_n (lv' := [(3, .long ((((p0 * 31) + (((r (2 * i))).toInt64)) * 31) + (((r (2 * i + 1))).toInt64))), (0, .ref (a (6 + 2 * i))), (1, .long p0)]) hx hb dX3_mix_21 rfl hl (by decide) rfl (fun ls hl => ?_)
  refine lv_iconst (v := 0) hx hb dX3_mix_22 (by decide) ?_
  refine lv_istore (lv' := [(5, .int 0), (3, .long ((((p0 * 31) + (((r (2 * i))).toInt64)) * 31) + (((r (2 * i + 1))).toInt64))), (0, .ref (a (6 + 2 * i))), (1, .long p0)]) hx hb dX3_mix_23 hl (by decide) rfl (fun ls hl => ?_)
  have lp25 : ∀ (nn : Nat) (y5_25 : Int32) (y3_25 : Int64) (H : Heap) (locs : List Loc), gap (r (2 * i)) y5_25 < nn → Bd κ A s (cw κ a r q f) H locs → ∀ ls : Array Slot, lv_has ls 7 [(5, .int y5_25), (3, .long y3_25), (0, .ref (a (6 + 2 * i))), (1, .long p0)] → W p l e (Rm 1 22 0 0) s m args below meth c H locs 0 0 Q (F0 m 25 ls []) := by
    intro nn
    induction nn with
    | zero => intro y5_25 y3_25 H locs hμ; exact absurd hμ (Nat.not_lt_zero _)
    | succ nn ih25 =>
      intro y5_25 y3_25 H locs hμ25 hB ls hl
      refine lv_iload hx hb dX3_mix_25 (lv_at hl 0 rfl) ?_
      refine lv_aload_n hx hb dX3_mix_27 rfl (lv_at hl 2 rfl) ?_
      refine gf hX hB (cwG (i := i) hi) rfl in3 1 (by decide) wm_1_46 rfl rfl dX3_mix_28 ?_
      refine lv_icmp_ge (tgt := 73) hx hb dX3_mix_31 (by decide) (fun c15 => ?_) (fun c15 => ?_)
      · refine lv_lload_n hx hb dX3_mix_73 rfl (lv_at hl 1 rfl) ?_
        rw [← hQ]
        exact end_l hX hB hA3 rfl ⟨_, rfl, rfl⟩ (Nat.le_of_ble_eq_true rfl) (Nat.le_of_ble_eq_true rfl) dX3_mix_74
      · refine lv_iconst (v := 0) hx hb dX3_mix_34 (by decide) ?_
        refine lv_istore (lv' := [(6, .int 0), (5, .int y5_25), (3, .long y3_25), (0, .ref (a (6 + 2 * i))), (1, .long p0)]) hx hb dX3_mix_35 hl (by decide) rfl (fun ls hl => ?_)
        have lp37 : ∀ (nn : Nat) (y6_37 : Int32) (y3_37 : Int64) (H : Heap) (locs : List Loc), gap (r (2 * i + 1)) y6_37 < nn → Bd κ A s (cw κ a r q f) H locs → ∀ ls : Array Slot, lv_has ls 7 [(6, .int y6_37), (5, .int y5_25), (3, .long y3_37), (0, .ref (a (6 + 2 * i))), (1, .long p0)] → W p l e (Rm 1 22 0 0) s m args below meth c H locs 0 0 Q (F0 m 37 ls []) := by
          intro nn
          induction nn with
          | zero => intro y6_37 y3_37 H locs hμ; exact absurd hμ (Nat.not_lt_zero _)
          | succ nn ih37 =>
            intro y6_37 y3_37 H locs hμ37 hB ls hl
            refine lv_iload hx hb dX3_mix_37 (lv_at hl 0 rfl) ?_
            refine lv_aload_n hx hb dX3_mix_39 rfl (lv_at hl 3 rfl) ?_
            refine gf hX hB (cwG (i := i) hi) rfl in3 2 (by decide) wm_1_52 rfl rfl dX3_mix_40 ?_
            refine lv_icmp_ge (tgt := 67) hx hb dX3_mix_43 (by decide) (fun c20 => ?_) (fun c20 => ?_)
            · refine lv_iinc (v := y5_25 + 1) (lv' := [(5, .int (y5_25 + 1)), (6, .int y6_37), (3, .long y3_37), (0, .ref (a (6 + 2 * i))), (1, .long p0)]) hx hb dX3_mix_67 hl (k := 1) rfl rfl (by decide) rfl (fun ls hl => ?_)
              refine lv_goto (tgt := 25) hx hb dX3_mix_70 (by decide) ?_
              exact ih25 (y5_25 + 1) y3_37 _ _  (gap_step c15 hμ25) hB _ (lv_sub hl [0, 2, 3, 4] rfl)
            · refine lv_lload_n hx hb dX3_mix_46 rfl (lv_at hl 2 rfl) ?_
              refine lv_ldc2 (own := RX3) (v := 31) hx hb hX.1.2.2.2.1 (hX.1.2.2.2.2 _ wm_2_133) dX3_mix_47 ?_
              refine lv_lmul hx hb dX3_mix_50 ?_
              refine lv_aload_n hx hb dX3_mix_51 rfl (lv_at hl 3 rfl) ?_
              refine lv_iload hx hb dX3_mix_52 (lv_at hl 1 rfl) ?_
              refine lv_iload hx hb dX3_mix_54 (lv_at hl 0 rfl) ?_
              refine call_V (n := 2) (As := [.int y5_25, .int y6_37]) (rest := [.long (y3_37 * 31)]) hX hB (k_X3_get κ l a r q f i y5_25 y6_37 hi) ⟨rfl, by decide, by decide, by decide +kernel⟩ wm_2_7 wm_1_187 wm_1_188 wm_1_2 wm_1_189 ⟨Nat.le_of_ble_eq_true rfl, Nat.le_of_ble_eq_true rfl⟩ ⟨Nat.le_of_ble_eq_true rfl, Nat.le_of_ble_eq_true rfl⟩ (cwG (i := i) hi) rfl rfl rfl hl.1 rfl (Nat.le_of_ble_eq_true rfl) dX3_mix_56 (fun o w' H locs hp hB => ?_)
              obtain ⟨x21, rfl, rfl⟩ := hp
              refine W.eq (g2 := F0 m 59 ls [.long x21, .long (y3_37 * 31)]) rfl ?_
              refine lv_ladd hx hb dX3_mix_59 ?_
              refine lv_lstore_n (lv' := [(3, .long ((y3_37 * 31) + x21)), (6, .int y6_37), (5, .int y5_25), (0, .ref (a (6 + 2 * i))), (1, .long p0)]) hx hb dX3_mix_60 rfl hl (by decide) rfl (fun ls hl => ?_)
              refine lv_iinc (v := y6_37 + 1) (lv' := [(6, .int (y6_37 + 1)), (3, .long ((y3_37 * 31) + x21)), (5, .int y5_25), (0, .ref (a (6 + 2 * i))), (1, .long p0)]) hx hb dX3_mix_61 hl (k := 1) rfl rfl (by decide) rfl (fun ls hl => ?_)
              refine lv_goto (tgt := 37) hx hb dX3_mix_64 (by decide) ?_
              exact ih37 (y6_37 + 1) ((y3_37 * 31) + x21) _ _  (gap_step c20 hμ37) hB _ (lv_sub hl [0, 2, 1, 3, 4] rfl)
        exact lp37 _ 0 y3_25 _ _  (Nat.lt_succ_self _) hB _ hl
  exact lp25 _ 0 ((((p0 * 31) + (((r (2 * i))).toInt64)) * 31) + (((r (2 * i + 1))).toInt64)) _ _  (Nat.lt_succ_self _) hB _ hl
