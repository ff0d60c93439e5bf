set_option maxHeartbeats 4000000 in
set_option maxRecDepth 100000 in
theorem k_X5_needTable (κ : Kt) (l : Launch) (hst : l.stackTraces = false) (a : Nat → Nat) (r q : Nat → Int32) (f : Nat → Nat → Int64) (p0 : Int32)  : CX κ l yX5_needTable cX5_needTable 2 (some (.object "Gridmender$Grid")) 6 90 1 6 [.ref (a 0), .int p0] (cw κ a r q f) (fun o w' => ∃ i : Nat, i < 4 ∧ o = some (.ref (a (6 + 2 * i))) ∧ w' = cw κ a r q f) (fun E w' => E ∈ (["java/lang/IndexOutOfBoundsException"] : List String) ∧ w' = cw κ a r q f) := by
  refine CX_begin (by decide) (Nat.le_of_ble_eq_true rfl) ?_
  intro p e s m args below meth c A Q hX hne hA3 hQ hB ls hl
  have hx := hX.1.1
  have hb := hX.1.2.1
  have hl : lv_has ls 2 [(0, .ref (a 0)), (1, .int p0)] := hl
  refine lv_iload_n hx hb dX5_needTable_0 rfl (lv_at hl 1 rfl) ?_
  refine lv_if_lt (tgt := 9) hx hb dX5_needTable_1 (by decide) (fun c1 => ?_) (fun c1 => ?_)
  · rw [← hQ]
    exact throw_TW (cls := "java/lang/IndexOutOfBoundsException") (text := "no such table") (nL := 2) hst hX hne hB hA3 rfl (by decide) wm_2_169 wm_1_12 (by decide) tw_275a tw_275b tw_275c hl.1 dX5_needTable_9 dX5_needTable_12 dX5_needTable_13 dX5_needTable_16 dX5_needTable_19 (Nat.le_of_ble_eq_true rfl) (Nat.le_of_ble_eq_true rfl) (Nat.le_of_ble_eq_true rfl) (Nat.le_of_ble_eq_true rfl) ⟨(by decide), rfl⟩ (Nat.le_of_ble_eq_true rfl) (Nat.le_of_ble_eq_true rfl)
  · refine lv_iload_n hx hb dX5_needTable_4 rfl (lv_at hl 1 rfl) ?_
    refine lv_iconst (v := 4) hx hb dX5_needTable_5 (by decide) ?_
    refine lv_icmp_lt (tgt := 20) hx hb dX5_needTable_6 (by decide) (fun c2 => ?_) (fun c2 => ?_)
    · refine lv_aload_n hx hb dX5_needTable_20 rfl (lv_at hl 0 rfl) ?_
      refine gf hX hB cw0 rfl in5 0 (by decide) wm_1_137 rfl rfl dX5_needTable_21 ?_
      refine lv_iload_n hx hb dX5_needTable_24 rfl (lv_at hl 1 rfl) ?_
      refine aaldG hX hB cw1 (in_of' (N := 4) rfl (by first | assumption | exact i32_not_le.mpr (by assumption)) (by first | assumption | exact i32_not_le.mpr (by assumption))) rfl dX5_needTable_25 ?_
      rw [← hQ]
      exact vx_ret ( end_a hX hB hA3 rfl (Or.inr ⟨_, rfl⟩) ⟨_, clamp_lt (in_of' (N := 4) rfl (by first | assumption | exact i32_not_le.mpr (by assumption)) (by first | assumption | exact i32_not_le.mpr (by assumption))), rfl, rfl⟩ (Nat.le_of_ble_eq_true rfl) (Nat.le_of_ble_eq_true rfl) dX5_needTable_26)
    · rw [← hQ]
      exact throw_TW (cls := "java/lang/IndexOutOfBoundsException") (text := "no such table") (nL := 2) hst hX hne hB hA3 rfl (by decide) wm_2_169 wm_1_12 (by decide) tw_275a tw_275b tw_275c hl.1 dX5_needTable_9 dX5_needTable_12 dX5_needTable_13 dX5_needTable_16 dX5_needTable_19 (Nat.le_of_ble_eq_true rfl) (Nat.le_of_ble_eq_true rfl) (Nat.le_of_ble_eq_true rfl) (Nat.le_of_ble_eq_true rfl) ⟨(by decide), rfl⟩ (Nat.le_of_ble_eq_true rfl) (Nat.le_of_ble_eq_true rfl)
set_option maxHeartbeats 4000000 in
set_option maxRecDepth 100000 in
theorem k_X5_needIndex (κ : Kt) (l : Launch) (hst : l.stackTraces = false) (a : Nat → Nat) (r q : Nat → Int32) (f : Nat → Nat → Int64) (p0 : Int32)  : CX κ l yX5_needIndex cX5_needIndex 1 (none) 6 90 1 6 [.int p0] (cw κ a r q f) (fun o w' => o = none ∧ w' = cw κ a r q f) (fun E w' => E ∈ (["java/lang/IndexOutOfBoundsException"] : List String) ∧ w' = cw κ a r q f) := by
  refine CX_begin (by decide) (Nat.le_of_ble_eq_true rfl) ?_
  intro p e s m args below meth c A Q hX hne hA3 hQ hB ls hl
  have hx := hX.1.1
  have hb := hX.1.2.1
  have hl : lv_has ls 1 [(0, .int p0)] := hl
  refine lv_iload_n hx hb dX5_needIndex_0 rfl (lv_at hl 0 rfl) ?_
  refine lv_if_ne (tgt := 15) hx hb dX5_needIndex_1 (by decide) (fun c1 => ?_) (fun c1 => ?_)
  · rw [← hQ]
    exact vx_ret ( end_v hX hB hA3 rfl ⟨rfl, rfl⟩ (Nat.le_of_ble_eq_true rfl) (Nat.le_of_ble_eq_true rfl) dX5_needIndex_15)
  · rw [← hQ]
    exact throw_TW (cls := "java/lang/IndexOutOfBoundsException") (text := "no such row or column") (nL := 1) hst hX hne hB hA3 rfl (by decide) wm_2_169 wm_1_12 (by decide) tw_275a tw_275b tw_275c hl.1 dX5_needIndex_4 dX5_needIndex_7 dX5_needIndex_8 dX5_needIndex_11 dX5_needIndex_14 (Nat.le_of_ble_eq_true rfl) (Nat.le_of_ble_eq_true rfl) (Nat.le_of_ble_eq_true rfl) (Nat.le_of_ble_eq_true rfl) ⟨(by decide), rfl⟩ (Nat.le_of_ble_eq_true rfl) (Nat.le_of_ble_eq_true rfl)
set_option maxHeartbeats 4000000 in
set_option maxRecDepth 100000 in
theorem k_X5_needArgument (κ : Kt) (l : Launch) (hst : l.stackTraces = false) (a : Nat → Nat) (r q : Nat → Int32) (f : Nat → Nat → Int64) (p0 : Int32)  : CX κ l yX5_needArgument cX5_needArgument 1 (none) 6 90 1 6 [.int p0] (cw κ a r q f) (fun o w' => o = none ∧ w' = cw κ a r q f) (fun E w' => E ∈ (["java/lang/IllegalArgumentException"] : List String) ∧ w' = cw κ a r q f) := by
  refine CX_begin (by decide) (Nat.le_of_ble_eq_true rfl) ?_
  intro p e s m args below meth c A Q hX hne hA3 hQ hB ls hl
  have hx := hX.1.1
  have hb := hX.1.2.1
  have hl : lv_has ls 1 [(0, .int p0)] := hl
  refine lv_iload_n hx hb dX5_needArgument_0 rfl (lv_at hl 0 rfl) ?_
  refine lv_if_ne (tgt := 15) hx hb dX5_needArgument_1 (by decide) (fun c1 => ?_) (fun c1 => ?_)
  · rw [← hQ]
    exact vx_ret ( end_v hX hB hA3 rfl ⟨rfl, rfl⟩ (Nat.le_of_ble_eq_true rfl) (Nat.le_of_ble_eq_true rfl) dX5_needArgument_15)
  · rw [← hQ]
    exact throw_TW (cls := "java/lang/IllegalArgumentException") (text := "not allowed here") (nL := 1) hst hX hne hB hA3 rfl (by decide) wm_3_3 wm_1_13 (by decide) tw_282a tw_282b tw_282c hl.1 dX5_needArgument_4 dX5_needArgument_7 dX5_needArgument_8 dX5_needArgument_11 dX5_needArgument_14 (Nat.le_of_ble_eq_true rfl) (Nat.le_of_ble_eq_true rfl) (Nat.le_of_ble_eq_true rfl) (Nat.le_of_ble_eq_true rfl) ⟨(by decide), rfl⟩ (Nat.le_of_ble_eq_true rfl) (Nat.le_of_ble_eq_true rfl)
set_option maxHeartbeats 4000000 in
set_option maxRecDepth 100000 in
theorem k_X5_needState (κ : Kt) (l : Launch) (hst : l.stackTraces = false) (a : Nat → Nat) (r q : Nat → Int32) (f : Nat → Nat → Int64) (p0 : Int32)  : CX κ l yX5_needState cX5_needState 1 (none) 6 90 1 6 [.int p0] (cw κ a r q f) (fun o w' => o = none ∧ w' = cw κ a r q f) (fun E w' => E ∈ (["java/lang/IllegalStateException"] : List String) ∧ w' = cw κ a r q f) := by
  refine CX_begin (by decide) (Nat.le_of_ble_eq_true rfl) ?_
  intro p e s m args below meth c A Q hX hne hA3 hQ hB ls hl
  have hx := hX.1.1
  have hb := hX.1.2.1
  have hl : lv_has ls 1 [(0, .int p0)] := hl
  refine lv_iload_n hx hb dX5_needState_0 rfl (lv_at hl 0 rfl) ?_
  refine lv_if_ne (tgt := 15) hx hb dX5_needState_1 (by decide) (fun c1 => ?_) (fun c1 => ?_)
  · rw [← hQ]
    exact vx_ret ( end_v hX hB hA3 rfl ⟨rfl, rfl⟩ (Nat.le_of_ble_eq_true rfl) (Nat.le_of_ble_eq_true rfl) dX5_needState_15)
  · rw [← hQ]
    exact throw_TW (cls := "java/lang/IllegalStateException") (text := "the table does not allow it") (nL := 1) hst hX hne hB hA3 rfl (by decide) wm_5_29 wm_1_28 (by decide) tw_227a tw_227b tw_227c hl.1 dX5_needState_4 dX5_needState_7 dX5_needState_8 dX5_needState_11 dX5_needState_14 (Nat.le_of_ble_eq_true rfl) (Nat.le_of_ble_eq_true rfl) (Nat.le_of_ble_eq_true rfl) (Nat.le_of_ble_eq_true rfl) ⟨(by decide), rfl⟩ (Nat.le_of_ble_eq_true rfl) (Nat.le_of_ble_eq_true rfl)
set_option maxHeartbeats 4000000 in
set_option maxRecDepth 100000 in
theorem k_X5_isCount (κ : Kt) (l : Launch) (w : va_W) (p0 : Int32)  : CM κ l yX5_isCount cX5_isCount 1 (some .boolean) 0 0 0 0 [.int p0] (w) (fun o w' => ∃ x : Int32, o = some (.int x) ∧ (x = 0 ∨ x = 1) ∧ w' = w) := by
  refine CM_begin (plainFor_of_name (by decide)) (Nat.le_of_ble_eq_true rfl) ?_
  intro p e s m args below meth c A Q hX hnm hA3 hQ hB ls hl
  have hx := hX.1.1
  have hb := hX.1.2.1
  have hl : lv_has ls 1 [(0, .int p0)] := hl
  refine lv_iload_n hx hb dX5_isCount_0 rfl (lv_at hl 0 rfl) ?_
  refine lv_iconst (v := 1) hx hb dX5_isCount_1 (by decide) ?_
  refine lv_icmp_lt (tgt := 14) hx hb dX5_isCount_2 (by decide) (fun c1 => ?_) (fun c1 => ?_)
  · refine lv_iconst (v := 0) hx hb dX5_isCount_14 (by decide) ?_
    rw [← hQ]
    exact end_i hX hB hA3 rfl rfl ⟨_, rfl, Or.inl rfl, rfl⟩ (Nat.le_of_ble_eq_true rfl) (Nat.le_of_ble_eq_true rfl) dX5_isCount_15
  · refine lv_iload_n hx hb dX5_isCount_5 rfl (lv_at hl 0 rfl) ?_
    refine lv_iconst (v := 4) hx hb dX5_isCount_6 (by decide) ?_
    refine lv_icmp_gt (tgt := 14) hx hb dX5_isCount_7 (by decide) (fun c2 => ?_) (fun c2 => ?_)
    · refine lv_iconst (v := 0) hx hb dX5_isCount_14 (by decide) ?_
      rw [← hQ]
      exact end_i hX hB hA3 rfl rfl ⟨_, rfl, Or.inl rfl, rfl⟩ (Nat.le_of_ble_eq_true rfl) (Nat.le_of_ble_eq_true rfl) dX5_isCount_15
    · refine lv_iconst (v := 1) hx hb dX5_isCount_10 (by decide) ?_
      refine lv_goto (tgt := 15) hx hb dX5_isCount_11 (by decide) ?_
      rw [← hQ]
      exact end_i hX hB hA3 rfl rfl ⟨_, rfl, Or.inr rfl, rfl⟩ (Nat.le_of_ble_eq_true rfl) (Nat.le_of_ble_eq_true rfl) dX5_isCount_15
set_option maxHeartbeats 4000000 in
set_option maxRecDepth 100000 in
theorem k_X5_isForm (κ : Kt) (l : Launch) (w : va_W) (p0 : Int32)  : CM κ l yX5_isForm cX5_isForm 1 (some .boolean) 0 0 0 0 [.int p0] (w) (fun o w' => ∃ x : Int32, o = some (.int x) ∧ (x = 0 ∨ x = 1) ∧ w' = w) := by
  refine CM_begin (plainFor_of_name (by decide)) (Nat.le_of_ble_eq_true rfl) ?_
  intro p e s m args below meth c A Q hX hnm hA3 hQ hB ls hl
  have hx := hX.1.1
  have hb := hX.1.2.1
  have hl : lv_has ls 1 [(0, .int p0)] := hl
  refine lv_iload_n hx hb dX5_isForm_0 rfl (lv_at hl 0 rfl) ?_
  refine lv_if_lt (tgt := 13) hx hb dX5_isForm_1 (by decide) (fun c1 => ?_) (fun c1 => ?_)
  · refine lv_iconst (v := 0) hx hb dX5_isForm_13 (by decide) ?_
    rw [← hQ]
    exact end_i hX hB hA3 rfl rfl ⟨_, rfl, Or.inl rfl, rfl⟩ (Nat.le_of_ble_eq_true rfl) (Nat.le_of_ble_eq_true rfl) dX5_isForm_14
  · refine lv_iload_n hx hb dX5_isForm_4 rfl (lv_at hl 0 rfl) ?_
    refine lv_iconst (v := 4) hx hb dX5_isForm_5 (by decide) ?_
    refine lv_icmp_gt (tgt := 13) hx hb dX5_isForm_6 (by decide) (fun c2 => ?_) (fun c2 => ?_)
    · refine lv_iconst (v := 0) hx hb dX5_isForm_13 (by decide) ?_
      rw [← hQ]
      exact end_i hX hB hA3 rfl rfl ⟨_, rfl, Or.inl rfl, rfl⟩ (Nat.le_of_ble_eq_true rfl) (Nat.le_of_ble_eq_true rfl) dX5_isForm_14
    · refine lv_iconst (v := 1) hx hb dX5_isForm_9 (by decide) ?_
      refine lv_goto (tgt := 14) hx hb dX5_isForm_10 (by decide) ?_
      rw [← hQ]
      exact end_i hX hB hA3 rfl rfl ⟨_, rfl, Or.inr rfl, rfl⟩ (Nat.le_of_ble_eq_true rfl) (Nat.le_of_ble_eq_true rfl) dX5_isForm_14
set_option maxHeartbeats 4000000 in
set_option maxRecDepth 100000 in
theorem k_X5_tellDone (κ : Kt) (l : Launch) (a : Nat → Nat) (r q : Nat → Int32) (f : Nat → Nat → Int64) (p0 : Int32)  : CM κ l yX5_tellDone cX5_tellDone 2 (some .int) 0 0 0 0 [.ref (a 0), .int p0] (cw κ a r q f) (fun o w' => ∃ x : Int32, ∃ (q' : Nat → Int32) (f' : Nat → Nat → Int64), o = some (.int x) ∧ q' 4 = q 4 ∧ w' = cw κ a r q' f') := by
  refine CM_begin (plainFor_of_name (by decide)) (Nat.le_of_ble_eq_true rfl) ?_
  intro p e s m args below meth c A Q hX hnm hA3 hQ hB ls hl
  have hx := hX.1.1
  have hb := hX.1.2.1
  have hl : lv_has ls 2 [(0, .ref (a 0)), (1, .int p0)] := hl
  refine lv_aload_n hx hb dX5_tellDone_0 rfl (lv_at hl 0 rfl) ?_
  refine lv_dup hx hb dX5_tellDone_1 rfl ?_
  refine gf hX hB cw0 rfl in5 7 (by decide) wm_1_144 rfl rfl dX5_tellDone_2 ?_
  refine lv_iconst (v := 1) hx hb dX5_tellDone_5 (by decide) ?_
  refine lv_iadd hx hb dX5_tellDone_6 ?_
  refine pf (ty := .int) hX hB cw0 rfl in5 tyX5_ok nmX5 7 (by decide) wm_1_144 rfl rfl rfl rfl rfl (Nat.le_of_ble_eq_true rfl) (cwSQ2 _) dX5_tellDone_7 (fun H locs hB => ?_)
  refine lv_iload_n hx hb dX5_tellDone_10 rfl (lv_at hl 1 rfl) ?_
  rw [← hQ]
  exact end_i hX hB hA3 rfl rfl ⟨p0, (va_up q 2 ((q 2) + 1)), f, rfl, rfl, rfl⟩ (Nat.le_of_ble_eq_true rfl) (Nat.le_of_ble_eq_true rfl) dX5_tellDone_11
set_option maxHeartbeats 4000000 in
set_option maxRecDepth 100000 in
theorem k_X5_tellRefused (κ : Kt) (l : Launch) (a : Nat → Nat) (r q : Nat → Int32) (f : Nat → Nat → Int64)  : CM κ l yX5_tellRefused cX5_tellRefused 1 (some .int) 0 0 0 0 [.ref (a 0)] (cw κ a r q f) (fun o w' => ∃ x : Int32, ∃ (q' : Nat → Int32) (f' : Nat → Nat → Int64), o = some (.int x) ∧ q' 4 = q 4 ∧ w' = cw κ a r q' f') := by
  refine CM_begin (plainFor_of_name (by decide)) (Nat.le_of_ble_eq_true rfl) ?_
  intro p e s m args below meth c A Q hX hnm hA3 hQ hB ls hl
  have hx := hX.1.1
  have hb := hX.1.2.1
  have hl : lv_has ls 1 [(0, .ref (a 0))] := hl
  refine lv_aload_n hx hb dX5_tellRefused_0 rfl (lv_at hl 0 rfl) ?_
  refine lv_dup hx hb dX5_tellRefused_1 rfl ?_
  refine gf hX hB cw0 rfl in5 8 (by decide) wm_1_145 rfl rfl dX5_tellRefused_2 ?_
  refine lv_iconst (v := 1) hx hb dX5_tellRefused_5 (by decide) ?_
  refine lv_iadd hx hb dX5_tellRefused_6 ?_
  refine pf (ty := .int) hX hB cw0 rfl in5 tyX5_ok nmX5 8 (by decide) wm_1_145 rfl rfl rfl rfl rfl (Nat.le_of_ble_eq_true rfl) (cwSQ3 _) dX5_tellRefused_7 (fun H locs hB => ?_)
  refine lv_bipush (v := (-9)) hx hb dX5_tellRefused_10 (by decide) ?_
  rw [← hQ]
  exact end_i hX hB hA3 rfl rfl ⟨(-9), (va_up q 3 ((q 3) + 1)), f, rfl, rfl, rfl⟩ (Nat.le_of_ble_eq_true rfl) (Nat.le_of_ble_eq_true rfl) dX5_tellRefused_12
set_option maxHeartbeats 4000000 in
set_option maxRecDepth 100000 in
theorem k_X5_settleChange (κ : Kt) (l : Launch) (a : Nat → Nat) (r q : Nat → Int32) (f : Nat → Nat → Int64) (i : Nat) (hi : i < 15) : CM κ l yX5_settleChange cX5_settleChange 3 (some .int) 2 46 0 0 [.ref (a 0), .ref (a (6 + 2 * i))] (cw κ a r q f) (fun o w' => ∃ x : Int32, ∃ (r' q' : Nat → Int32) (f' : Nat → Nat → Int64), o = some (.int x) ∧ (okr r → okr r') ∧ q' 4 = q 4 ∧ w' = cw κ a r' q' f') := by
  refine CM_begin (plainFor_of_name (by decide)) (Nat.le_of_ble_eq_true rfl) ?_
  intro p e s m args below meth c A Q hX hnm hA3 hQ hB ls hl
  have hx := hX.1.1
  have hb := hX.1.2.1
  have hl : lv_has ls 3 [(0, .ref (a 0)), (1, .ref (a (6 + 2 * i)))] := hl
  refine lv_aload_n hx hb dX5_settleChange_0 rfl (lv_at hl 0 rfl) ?_
  refine gf hX hB cw0 rfl in5 1 (by decide) wm_1_138 rfl rfl dX5_settleChange_1 ?_
  refine lv_ldc2 (own := RX5) (v := 20) hx hb hX.1.2.2.2.1 (hX.1.2.2.2.2 _ wm_3_101) dX5_settleChange_4 ?_
  refine call_V (n := 1) (As := [.long 20]) (rest := []) hX hB (k_X3_isWithin κ l a r q f 4 20 (by decide)) ⟨rfl, by decide, by decide, by decide +kernel⟩ wm_3_102 wm_2_28 wm_2_29 wm_1_2 wm_2_30 ⟨Nat.le_of_ble_eq_true rfl, Nat.le_of_ble_eq_true rfl⟩ ⟨Nat.le_of_ble_eq_true rfl, Nat.le_of_ble_eq_true rfl⟩ (cwG (i := 4) (by decide)) rfl rfl rfl hl.1 rfl (Nat.le_of_ble_eq_true rfl) dX5_settleChange_7 (fun o w' H locs hp hB => ?_)
  obtain ⟨x1, rfl, bx1, rfl⟩ := hp
  refine W.eq (g2 := F0 m 10 ls [.int x1]) rfl ?_
  refine lv_if_ne (tgt := 18) hx hb dX5_settleChange_10 (by decide) (fun c2 => ?_) (fun c2 => ?_)
  · refine lv_aload_n hx hb dX5_settleChange_18 rfl (lv_at hl 1 rfl) ?_
    refine lv_aload_n hx hb dX5_settleChange_19 rfl (lv_at hl 0 rfl) ?_
    refine gf hX hB cw0 rfl in5 1 (by decide) wm_1_138 rfl rfl dX5_settleChange_20 ?_
    refine call_V (n := 1) (As := [.ref (a 14)]) (rest := []) hX hB (k_X3_countUnlike κ l a r q f i 4 hi (by decide)) ⟨rfl, by decide, by decide, by decide +kernel⟩ wm_3_107 wm_2_49 wm_2_50 wm_1_2 wm_2_51 ⟨Nat.le_of_ble_eq_true rfl, Nat.le_of_ble_eq_true rfl⟩ ⟨Nat.le_of_ble_eq_true rfl, Nat.le_of_ble_eq_true rfl⟩ (cwG (i := i) hi) rfl rfl rfl hl.1 rfl (Nat.le_of_ble_eq_true rfl) dX5_settleChange_23 (fun o w' H locs hp hB => ?_)
    obtain ⟨x3, rfl, rfl⟩ := hp
    refine W.eq (g2 := F0 m 26 ls [.int x3]) rfl ?_
    refine lv_istore_n (lv' := [(2, .int x3), (0, .ref (a 0)), (1, .ref (a (6 + 2 * i)))]) hx hb dX5_settleChange_26 rfl hl (by decide) rfl (fun ls hl => ?_)
    refine lv_aload_n hx hb dX5_settleChange_27 rfl (lv_at hl 2 rfl) ?_
    refine lv_aload_n hx hb dX5_settleChange_28 rfl (lv_at hl 1 rfl) ?_
    refine gf hX hB cw0 rfl in5 1 (by decide) wm_1_138 rfl rfl dX5_settleChange_29 ?_
    refine call_V (n := 1) (As := [.ref (a 14)]) (rest := []) hX hB (k_X3_becomeLike κ l a r q f i 4 hi (by decide)) ⟨rfl, by decide, by decide, by decide +kernel⟩ wm_3_74 wm_1_205 wm_1_206 wm_1_2 wm_1_207 ⟨Nat.le_of_ble_eq_true rfl, Nat.le_of_ble_eq_true rfl⟩ ⟨Nat.le_of_ble_eq_true rfl, Nat.le_of_ble_eq_true rfl⟩ (cwG (i := i) hi) rfl rfl rfl hl.1 rfl (Nat.le_of_ble_eq_true rfl) dX5_settleChange_32 (fun o w' H locs hp hB => ?_)
    obtain ⟨r4, q6, f8, rfl, ho5, hq7, rfl⟩ := hp
    refine W.eq (g2 := F0 m 35 ls []) rfl ?_
    refine lv_aload_n hx hb dX5_settleChange_35 rfl (lv_at hl 1 rfl) ?_
    refine lv_iload_n hx hb dX5_settleChange_36 rfl (lv_at hl 0 rfl) ?_
    refine call_V (n := 1) (As := [.int x3]) (rest := []) hX hB (k_X5_tellDone κ l a r4 q6 f8 x3) ⟨rfl, by decide, by decide, by decide +kernel⟩ wm_3_24 wm_3_26 wp_19 wm_1_1 wm_3_27 ⟨Nat.le_of_ble_eq_true rfl, Nat.le_of_ble_eq_true rfl⟩ ⟨Nat.le_of_ble_eq_true rfl, Nat.le_of_ble_eq_true rfl⟩ cw0 rfl rfl rfl hl.1 rfl (Nat.le_of_ble_eq_true rfl) dX5_settleChange_37 (fun o w' H locs hp hB => ?_)
    obtain ⟨x9, q10, f12, rfl, hq11, rfl⟩ := hp
    refine W.eq (g2 := F0 m 40 ls [.int x9]) rfl ?_
    rw [← hQ]
    exact end_i hX hB hA3 rfl rfl ⟨x9, r4, q10, f12, rfl, (fun h => ho5 ((fun h => h) h)), (hq11.trans (hq7.trans rfl)), rfl⟩ (Nat.le_of_ble_eq_true rfl) (Nat.le_of_ble_eq_true rfl) dX5_settleChange_40
  · refine lv_aload_n hx hb dX5_settleChange_13 rfl (lv_at hl 0 rfl) ?_
    refine call_V (n := 0) (As := []) (rest := []) hX hB (k_X5_tellRefused κ l a r q f) ⟨rfl, by decide, by decide, by decide +kernel⟩ wm_3_103 wm_3_105 wp_21 wm_1_1 wm_3_106 ⟨Nat.le_of_ble_eq_true rfl, Nat.le_of_ble_eq_true rfl⟩ ⟨Nat.le_of_ble_eq_true rfl, Nat.le_of_ble_eq_true rfl⟩ cw0 rfl rfl rfl hl.1 rfl (Nat.le_of_ble_eq_true rfl) dX5_settleChange_14 (fun o w' H locs hp hB => ?_)
    obtain ⟨x13, q14, f16, rfl, hq15, rfl⟩ := hp
    refine W.eq (g2 := F0 m 17 ls [.int x13]) rfl ?_
    rw [← hQ]
    exact end_i hX hB hA3 rfl rfl ⟨x13, r, q14, f16, rfl, (fun h => h), (hq15.trans rfl), rfl⟩ (Nat.le_of_ble_eq_true rfl) (Nat.le_of_ble_eq_true rfl) dX5_settleChange_17
set_option maxHeartbeats 4000000 in
set_option maxRecDepth 100000 in
theorem k_X5_settleForm (κ : Kt) (l : Launch) (a : Nat → Nat) (r q : Nat → Int32) (f : Nat → Nat → Int64) (i : Nat) (j : Nat) (hi : i < 15) (hj : j < 15) : CM κ l yX5_settleForm cX5_settleForm 3 (some .int) 2 46 0 0 [.ref (a 0), .ref (a (6 + 2 * i)), .ref (a (6 + 2 * j))] (cw κ a r q f) (fun o w' => ∃ x : Int32, ∃ (r' q' : Nat → Int32) (f' : Nat → Nat → Int64), o = some (.int x) ∧ (okr r → okr r') ∧ q' 4 = q 4 ∧ w' = cw κ a r' q' f') := by
  refine CM_begin (plainFor_of_name (by decide)) (Nat.le_of_ble_eq_true rfl) ?_
  intro p e s m args below meth c A Q hX hnm hA3 hQ hB ls hl
  have hx := hX.1.1
  have hb := hX.1.2.1
  have hl : lv_has ls 3 [(0, .ref (a 0)), (1, .ref (a (6 + 2 * i))), (2, .ref (a (6 + 2 * j)))] := hl
  refine lv_aload_n hx hb dX5_settleForm_0 rfl (lv_at hl 1 rfl) ?_
  refine lv_ldc2 (own := RX5) (v := 20) hx hb hX.1.2.2.2.1 (hX.1.2.2.2.2 _ wm_3_101) dX5_settleForm_1 ?_
  refine call_V (n := 1) (As := [.long 20]) (rest := []) hX hB (k_X3_isWithin κ l a r q f i 20 hi) ⟨rfl, by decide, by decide, by decide +kernel⟩ wm_3_102 wm_2_28 wm_2_29 wm_1_2 wm_2_30 ⟨Nat.le_of_ble_eq_true rfl, Nat.le_of_ble_eq_true rfl⟩ ⟨Nat.le_of_ble_eq_true rfl, Nat.le_of_ble_eq_true rfl⟩ (cwG (i := i) hi) rfl rfl rfl hl.1 rfl (Nat.le_of_ble_eq_true rfl) dX5_settleForm_4 (fun o w' H locs hp hB => ?_)
  obtain ⟨x1, rfl, bx1, rfl⟩ := hp
  refine W.eq (g2 := F0 m 7 ls [.int x1]) rfl ?_
  refine lv_if_ne (tgt := 15) hx hb dX5_settleForm_7 (by decide) (fun c2 => ?_) (fun c2 => ?_)
  · refine lv_aload_n hx hb dX5_settleForm_15 rfl (lv_at hl 2 rfl) ?_
    refine lv_aload_n hx hb dX5_settleForm_16 rfl (lv_at hl 1 rfl) ?_
    refine call_V (n := 1) (As := [.ref (a (6 + 2 * i))]) (rest := []) hX hB (k_X3_becomeLike κ l a r q f j i hj hi) ⟨rfl, by decide, by decide, by decide +kernel⟩ wm_3_74 wm_1_205 wm_1_206 wm_1_2 wm_1_207 ⟨Nat.le_of_ble_eq_true rfl, Nat.le_of_ble_eq_true rfl⟩ ⟨Nat.le_of_ble_eq_true rfl, Nat.le_of_ble_eq_true rfl⟩ (cwG (i := j) hj) rfl rfl rfl hl.1 rfl (Nat.le_of_ble_eq_true rfl) dX5_settleForm_17 (fun o w' H locs hp hB => ?_)
    obtain ⟨r3, q5, f7, rfl, ho4, hq6, rfl⟩ := hp
    refine W.eq (g2 := F0 m 20 ls []) rfl ?_
    refine lv_aload_n hx hb dX5_settleForm_20 rfl (lv_at hl 0 rfl) ?_
    refine lv_aload_n hx hb dX5_settleForm_21 rfl (lv_at hl 2 rfl) ?_
    refine call_V (n := 0) (As := []) (rest := [.ref (a 0)]) hX hB (k_X3_countFilled κ l a r3 q5 f7 j hj) ⟨rfl, by decide, by decide, by decide +kernel⟩ wm_3_19 wm_3_20 wm_3_21 wm_1_2 wm_3_22 ⟨Nat.le_of_ble_eq_true rfl, Nat.le_of_ble_eq_true rfl⟩ ⟨Nat.le_of_ble_eq_true rfl, Nat.le_of_ble_eq_true rfl⟩ (cwG (i := j) hj) rfl rfl rfl hl.1 rfl (Nat.le_of_ble_eq_true rfl) dX5_settleForm_22 (fun o w' H locs hp hB => ?_)
    obtain ⟨x8, rfl, rfl⟩ := hp
    refine W.eq (g2 := F0 m 25 ls [.int x8, .ref (a 0)]) rfl ?_
    refine call_V (n := 1) (As := [.int x8]) (rest := []) hX hB (k_X5_tellDone κ l a r3 q5 f7 x8) ⟨rfl, by decide, by decide, by decide +kernel⟩ wm_3_24 wm_3_26 wp_19 wm_1_1 wm_3_27 ⟨Nat.le_of_ble_eq_true rfl, Nat.le_of_ble_eq_true rfl⟩ ⟨Nat.le_of_ble_eq_true rfl, Nat.le_of_ble_eq_true rfl⟩ cw0 rfl rfl rfl hl.1 rfl (Nat.le_of_ble_eq_true rfl) dX5_settleForm_25 (fun o w' H locs hp hB => ?_)
    obtain ⟨x9, q10, f12, rfl, hq11, rfl⟩ := hp
    refine W.eq (g2 := F0 m 28 ls [.int x9]) rfl ?_
    rw [← hQ]
    exact end_i hX hB hA3 rfl rfl ⟨x9, r3, q10, f12, rfl, (fun h => ho4 ((fun h => h) h)), (hq11.trans (hq6.trans rfl)), rfl⟩ (Nat.le_of_ble_eq_true rfl) (Nat.le_of_ble_eq_true rfl) dX5_settleForm_28
  · refine lv_aload_n hx hb dX5_settleForm_10 rfl (lv_at hl 0 rfl) ?_
    refine call_V (n := 0) (As := []) (rest := []) hX hB (k_X5_tellRefused κ l a r q f) ⟨rfl, by decide, by decide, by decide +kernel⟩ wm_3_103 wm_3_105 wp_21 wm_1_1 wm_3_106 ⟨Nat.le_of_ble_eq_true rfl, Nat.le_of_ble_eq_true rfl⟩ ⟨Nat.le_of_ble_eq_true rfl, Nat.le_of_ble_eq_true rfl⟩ cw0 rfl rfl rfl hl.1 rfl (Nat.le_of_ble_eq_true rfl) dX5_settleForm_11 (fun o w' H locs hp hB => ?_)
    obtain ⟨x13, q14, f16, rfl, hq15, rfl⟩ := hp
    refine W.eq (g2 := F0 m 14 ls [.int x13]) rfl ?_
    rw [← hQ]
    exact end_i hX hB hA3 rfl rfl ⟨x13, r, q14, f16, rfl, (fun h => h), (hq15.trans rfl), rfl⟩ (Nat.le_of_ble_eq_true rfl) (Nat.le_of_ble_eq_true rfl) dX5_settleForm_14
set_option maxHeartbeats 4000000 in
set_option maxRecDepth 100000 in
theorem k_X5_findForm (κ : Kt) (l : Launch) (a : Nat → Nat) (r q : Nat → Int32) (f : Nat → Nat → Int64) (j : Nat) (p1 : Int32) (hj : j < 15) : CM κ l yX5_findForm cX5_findForm 3 (some (.object "Gridmender$Grid")) 5 124 0 0 [.ref (a 0), .ref (a (6 + 2 * j)), .int p1] (cw κ a r q f) (fun o w' => ∃ (r' q' : Nat → Int32) (f' : Nat → Nat → Int64), (okr r → okr r') ∧ q' 4 = q 4 ∧ w' = cw κ a r' q' f' ∧ (o = some .null ∨ ∃ i : Nat, i < 15 ∧ o = some (.ref (a (6 + 2 * i))))) := by
  refine CM_begin (plainFor_of_name (by decide)) (Nat.le_of_ble_eq_true rfl) ?_
  intro p e s m args below meth c A Q hX hnm hA3 hQ hB ls hl
  have hx := hX.1.1
  have hb := hX.1.2.1
  have hl : lv_has ls 3 [(0, .ref (a 0)), (1, .ref (a (6 + 2 * j))), (2, .int p1)] := hl
  refine lv_iload_n hx hb dX5_findForm_0 rfl (lv_at hl 2 rfl) ?_
  refine lv_if_eq (tgt := 9) hx hb dX5_findForm_1 (by decide) (fun c1 => ?_) (fun c1 => ?_)
  · refine lv_aload_n hx hb dX5_findForm_9 rfl (lv_at hl 0 rfl) ?_
    refine gf hX hB cw0 rfl in5 3 (by decide) wm_1_140 rfl rfl dX5_findForm_10 ?_
    refine lv_aload_n hx hb dX5_findForm_13 rfl (lv_at hl 1 rfl) ?_
    refine call_V (n := 1) (As := [.ref (a (6 + 2 * j))]) (rest := []) hX hB (k_X4_walk κ l a r q f j hj) ⟨rfl, by decide, by decide, by decide +kernel⟩ wm_1_200 wm_1_201 wm_1_202 wm_1_3 wm_1_203 ⟨Nat.le_of_ble_eq_true rfl, Nat.le_of_ble_eq_true rfl⟩ ⟨Nat.le_of_ble_eq_true rfl, Nat.le_of_ble_eq_true rfl⟩ cw2 rfl rfl rfl hl.1 rfl (Nat.le_of_ble_eq_true rfl) dX5_findForm_14 (fun o w' H locs hp hB => ?_)
    obtain ⟨r2, q4, f6, rfl, ho3, hq5, rfl⟩ := hp
    refine W.eq (g2 := F0 m 17 ls []) rfl ?_
    refine lv_aload_n hx hb dX5_findForm_17 rfl (lv_at hl 0 rfl) ?_
    refine gf hX hB cw0 rfl in5 3 (by decide) wm_1_140 rfl rfl dX5_findForm_18 ?_
    refine gfN hX hB cw2 rfl in4 2 (by decide) wn_1_79 rfl rfl dX5_findForm_21 ?_
    refine lv_if_eq (tgt := 29) hx hb dX5_findForm_24 (by decide) (fun c7 => ?_) (fun c7 => ?_)
    · refine lv_iload_n hx hb dX5_findForm_29 rfl (lv_at hl 2 rfl) ?_
      refine lv_if_ne (tgt := 43) hx hb dX5_findForm_30 (by decide) (fun c8 => ?_) (fun c8 => ?_)
      · refine lv_aload_n hx hb dX5_findForm_43 rfl (lv_at hl 0 rfl) ?_
        refine gf hX hB cw0 rfl in5 3 (by decide) wm_1_140 rfl rfl dX5_findForm_44 ?_
        refine gfN hX hB cw2 rfl in4 1 (by decide) wn_1_77 rfl rfl dX5_findForm_47 ?_
        rw [← hQ]
        exact end_a hX hB hA3 rfl (Or.inr ⟨_, rfl⟩) ⟨r2, q4, f6, (fun h => ho3 ((fun h => h) h)), (hq5.trans rfl), rfl, Or.inr ⟨7, (by decide), rfl⟩⟩ (Nat.le_of_ble_eq_true rfl) (Nat.le_of_ble_eq_true rfl) dX5_findForm_50
      · refine lv_aload_n hx hb dX5_findForm_33 rfl (lv_at hl 0 rfl) ?_
        refine gf hX hB cw0 rfl in5 3 (by decide) wm_1_140 rfl rfl dX5_findForm_34 ?_
        refine gfN hX hB cw2 rfl in4 0 (by decide) wn_1_75 rfl rfl dX5_findForm_37 ?_
        refine lv_goto (tgt := 50) hx hb dX5_findForm_40 (by decide) ?_
        rw [← hQ]
        exact end_a hX hB hA3 rfl (Or.inr ⟨_, rfl⟩) ⟨r2, q4, f6, (fun h => ho3 ((fun h => h) h)), (hq5.trans rfl), rfl, Or.inr ⟨6, (by decide), rfl⟩⟩ (Nat.le_of_ble_eq_true rfl) (Nat.le_of_ble_eq_true rfl) dX5_findForm_50
    · refine lv_null hx hb dX5_findForm_27 ?_
      rw [← hQ]
      exact end_a hX hB hA3 rfl (Or.inl rfl) ⟨r2, q4, f6, (fun h => ho3 ((fun h => h) h)), (hq5.trans rfl), rfl, Or.inl rfl⟩ (Nat.le_of_ble_eq_true rfl) (Nat.le_of_ble_eq_true rfl) dX5_findForm_28
  · refine lv_iload_n hx hb dX5_findForm_4 rfl (lv_at hl 2 rfl) ?_
    refine lv_iconst (v := 1) hx hb dX5_findForm_5 (by decide) ?_
    refine lv_icmp_ne (tgt := 51) hx hb dX5_findForm_6 (by decide) (fun c9 => ?_) (fun c9 => ?_)
    · refine lv_aload_n hx hb dX5_findForm_51 rfl (lv_at hl 0 rfl) ?_
      refine gf hX hB cw0 rfl in5 4 (by decide) wm_1_141 rfl rfl dX5_findForm_52 ?_
      refine lv_aload_n hx hb dX5_findForm_55 rfl (lv_at hl 1 rfl) ?_
      refine call_V (n := 1) (As := [.ref (a (6 + 2 * j))]) (rest := []) hX hB (k_X1_walk κ l a r q f j hj) ⟨rfl, by decide, by decide, by decide +kernel⟩ wm_2_72 wm_2_73 wm_2_74 wm_1_4 wm_2_75 ⟨Nat.le_of_ble_eq_true rfl, Nat.le_of_ble_eq_true rfl⟩ ⟨Nat.le_of_ble_eq_true rfl, Nat.le_of_ble_eq_true rfl⟩ cw3 rfl rfl rfl hl.1 rfl (Nat.le_of_ble_eq_true rfl) dX5_findForm_56 (fun o w' H locs hp hB => ?_)
      obtain ⟨r10, q12, f14, rfl, ho11, hq13, rfl⟩ := hp
      refine W.eq (g2 := F0 m 59 ls []) rfl ?_
      refine lv_aload_n hx hb dX5_findForm_59 rfl (lv_at hl 0 rfl) ?_
      refine gf hX hB cw0 rfl in5 4 (by decide) wm_1_141 rfl rfl dX5_findForm_60 ?_
      refine gfN hX hB cw3 rfl in1 3 (by decide) wn_1_105 rfl rfl dX5_findForm_63 ?_
      refine lv_if_eq (tgt := 71) hx hb dX5_findForm_66 (by decide) (fun c15 => ?_) (fun c15 => ?_)
      · refine lv_iload_n hx hb dX5_findForm_71 rfl (lv_at hl 2 rfl) ?_
        refine lv_iconst (v := 2) hx hb dX5_findForm_72 (by decide) ?_
        refine lv_icmp_ne (tgt := 84) hx hb dX5_findForm_73 (by decide) (fun c16 => ?_) (fun c16 => ?_)
        · refine lv_iload_n hx hb dX5_findForm_84 rfl (lv_at hl 2 rfl) ?_
          refine lv_iconst (v := 3) hx hb dX5_findForm_85 (by decide) ?_
          refine lv_icmp_ne (tgt := 99) hx hb dX5_findForm_86 (by decide) (fun c17 => ?_) (fun c17 => ?_)
          · refine lv_aload_n hx hb dX5_findForm_99 rfl (lv_at hl 0 rfl) ?_
            refine gf hX hB cw0 rfl in5 4 (by decide) wm_1_141 rfl rfl dX5_findForm_100 ?_
            refine gfN hX hB cw3 rfl in1 2 (by decide) wn_1_103 rfl rfl dX5_findForm_103 ?_
            rw [← hQ]
            exact end_a hX hB hA3 rfl (Or.inr ⟨_, rfl⟩) ⟨r10, q12, f14, (fun h => ho11 ((fun h => h) h)), (hq13.trans rfl), rfl, Or.inr ⟨10, (by decide), rfl⟩⟩ (Nat.le_of_ble_eq_true rfl) (Nat.le_of_ble_eq_true rfl) dX5_findForm_106
          · refine lv_aload_n hx hb dX5_findForm_89 rfl (lv_at hl 0 rfl) ?_
            refine gf hX hB cw0 rfl in5 4 (by decide) wm_1_141 rfl rfl dX5_findForm_90 ?_
            refine gfN hX hB cw3 rfl in1 1 (by decide) wn_1_100 rfl rfl dX5_findForm_93 ?_
            refine lv_goto (tgt := 106) hx hb dX5_findForm_96 (by decide) ?_
            rw [← hQ]
            exact end_a hX hB hA3 rfl (Or.inr ⟨_, rfl⟩) ⟨r10, q12, f14, (fun h => ho11 ((fun h => h) h)), (hq13.trans rfl), rfl, Or.inr ⟨9, (by decide), rfl⟩⟩ (Nat.le_of_ble_eq_true rfl) (Nat.le_of_ble_eq_true rfl) dX5_findForm_106
        · refine lv_aload_n hx hb dX5_findForm_76 rfl (lv_at hl 0 rfl) ?_
          refine gf hX hB cw0 rfl in5 4 (by decide) wm_1_141 rfl rfl dX5_findForm_77 ?_
          refine gfN hX hB cw3 rfl in1 0 (by decide) wn_1_97 rfl rfl dX5_findForm_80 ?_
          rw [← hQ]
          exact end_a hX hB hA3 rfl (Or.inr ⟨_, rfl⟩) ⟨r10, q12, f14, (fun h => ho11 ((fun h => h) h)), (hq13.trans rfl), rfl, Or.inr ⟨8, (by decide), rfl⟩⟩ (Nat.le_of_ble_eq_true rfl) (Nat.le_of_ble_eq_true rfl) dX5_findForm_83
      · refine lv_null hx hb dX5_findForm_69 ?_
        rw [← hQ]
        exact end_a hX hB hA3 rfl (Or.inl rfl) ⟨r10, q12, f14, (fun h => ho11 ((fun h => h) h)), (hq13.trans rfl), rfl, Or.inl rfl⟩ (Nat.le_of_ble_eq_true rfl) (Nat.le_of_ble_eq_true rfl) dX5_findForm_70
    · refine lv_aload_n hx hb dX5_findForm_9 rfl (lv_at hl 0 rfl) ?_
      refine gf hX hB cw0 rfl in5 3 (by decide) wm_1_140 rfl rfl dX5_findForm_10 ?_
      refine lv_aload_n hx hb dX5_findForm_13 rfl (lv_at hl 1 rfl) ?_
      refine call_V (n := 1) (As := [.ref (a (6 + 2 * j))]) (rest := []) hX hB (k_X4_walk κ l a r q f j hj) ⟨rfl, by decide, by decide, by decide +kernel⟩ wm_1_200 wm_1_201 wm_1_202 wm_1_3 wm_1_203 ⟨Nat.le_of_ble_eq_true rfl, Nat.le_of_ble_eq_true rfl⟩ ⟨Nat.le_of_ble_eq_true rfl, Nat.le_of_ble_eq_true rfl⟩ cw2 rfl rfl rfl hl.1 rfl (Nat.le_of_ble_eq_true rfl) dX5_findForm_14 (fun o w' H locs hp hB => ?_)
      obtain ⟨r18, q20, f22, rfl, ho19, hq21, rfl⟩ := hp
      refine W.eq (g2 := F0 m 17 ls []) rfl ?_
      refine lv_aload_n hx hb dX5_findForm_17 rfl (lv_at hl 0 rfl) ?_
      refine gf hX hB cw0 rfl in5 3 (by decide) wm_1_140 rfl rfl dX5_findForm_18 ?_
      refine gfN hX hB cw2 rfl in4 2 (by decide) wn_1_79 rfl rfl dX5_findForm_21 ?_
      refine lv_if_eq (tgt := 29) hx hb dX5_findForm_24 (by decide) (fun c23 => ?_) (fun c23 => ?_)
      · refine lv_iload_n hx hb dX5_findForm_29 rfl (lv_at hl 2 rfl) ?_
        refine lv_if_ne (tgt := 43) hx hb dX5_findForm_30 (by decide) (fun c24 => ?_) (fun c24 => ?_)
        · refine lv_aload_n hx hb dX5_findForm_43 rfl (lv_at hl 0 rfl) ?_
          refine gf hX hB cw0 rfl in5 3 (by decide) wm_1_140 rfl rfl dX5_findForm_44 ?_
          refine gfN hX hB cw2 rfl in4 1 (by decide) wn_1_77 rfl rfl dX5_findForm_47 ?_
          rw [← hQ]
          exact end_a hX hB hA3 rfl (Or.inr ⟨_, rfl⟩) ⟨r18, q20, f22, (fun h => ho19 ((fun h => h) h)), (hq21.trans rfl), rfl, Or.inr ⟨7, (by decide), rfl⟩⟩ (Nat.le_of_ble_eq_true rfl) (Nat.le_of_ble_eq_true rfl) dX5_findForm_50
        · refine lv_aload_n hx hb dX5_findForm_33 rfl (lv_at hl 0 rfl) ?_
          refine gf hX hB cw0 rfl in5 3 (by decide) wm_1_140 rfl rfl dX5_findForm_34 ?_
          refine gfN hX hB cw2 rfl in4 0 (by decide) wn_1_75 rfl rfl dX5_findForm_37 ?_
          refine lv_goto (tgt := 50) hx hb dX5_findForm_40 (by decide) ?_
          rw [← hQ]
          exact end_a hX hB hA3 rfl (Or.inr ⟨_, rfl⟩) ⟨r18, q20, f22, (fun h => ho19 ((fun h => h) h)), (hq21.trans rfl), rfl, Or.inr ⟨6, (by decide), rfl⟩⟩ (Nat.le_of_ble_eq_true rfl) (Nat.le_of_ble_eq_true rfl) dX5_findForm_50
      · refine lv_null hx hb dX5_findForm_27 ?_
        rw [← hQ]
        exact end_a hX hB hA3 rfl (Or.inl rfl) ⟨r18, q20, f22, (fun h => ho19 ((fun h => h) h)), (hq21.trans rfl), rfl, Or.inl rfl⟩ (Nat.le_of_ble_eq_true rfl) (Nat.le_of_ble_eq_true rfl) dX5_findForm_28
set_option maxHeartbeats 4000000 in
set_option maxRecDepth 100000 in
theorem k_X5_leavesRests (κ : Kt) (l : Launch) (a : Nat → Nat) (r q : Nat → Int32) (f : Nat → Nat → Int64) (i : Nat) (hi : i < 15) : CM κ l yX5_leavesRests cX5_leavesRests 2 (some .boolean) 6 165 0 0 [.ref (a 0), .ref (a (6 + 2 * i))] (cw κ a r q f) (fun o w' => ∃ x : Int32, ∃ (r' q' : Nat → Int32) (f' : Nat → Nat → Int64), o = some (.int x) ∧ (x = 0 ∨ x = 1) ∧ (okr r → okr r') ∧ q' 4 = q 4 ∧ w' = cw κ a r' q' f') := by
  refine CM_begin (plainFor_of_name (by decide)) (Nat.le_of_ble_eq_true rfl) ?_
  intro p e s m args below meth c A Q hX hnm hA3 hQ hB ls hl
  have hx := hX.1.1
  have hb := hX.1.2.1
  have hl : lv_has ls 2 [(0, .ref (a 0)), (1, .ref (a (6 + 2 * i)))] := hl
  refine lv_aload_n hx hb dX5_leavesRests_0 rfl (lv_at hl 1 rfl) ?_
  refine gfN hX hB (cwG (i := i) hi) rfl in3 1 (by decide) wn_1_51 rfl rfl dX5_leavesRests_1 ?_
  refine lv_aload_n hx hb dX5_leavesRests_4 rfl (lv_at hl 1 rfl) ?_
  refine gfN hX hB (cwG (i := i) hi) rfl in3 2 (by decide) wn_1_57 rfl rfl dX5_leavesRests_5 ?_
  refine lv_icmp_ne (tgt := 20) hx hb dX5_leavesRests_8 (by decide) (fun c1 => ?_) (fun c1 => ?_)
  · refine lv_iconst (v := 0) hx hb dX5_leavesRests_20 (by decide) ?_
    rw [← hQ]
    exact end_i hX hB hA3 rfl rfl ⟨0, r, q, f, rfl, Or.inl rfl, (fun h => h), rfl, rfl⟩ (Nat.le_of_ble_eq_true rfl) (Nat.le_of_ble_eq_true rfl) dX5_leavesRests_21
  · refine lv_aload_n hx hb dX5_leavesRests_11 rfl (lv_at hl 1 rfl) ?_
    refine call_S (n := 1) (As := [.ref (a (6 + 2 * i))]) (rest := []) hX hB (k_X0_byFirstRow κ l a r q f i hi) ⟨by decide, by decide, by decide +kernel⟩ wm_1_180 wm_1_181 wm_1_29 wm_1_182 ⟨Nat.le_of_ble_eq_true rfl, Nat.le_of_ble_eq_true rfl⟩ ⟨Nat.le_of_ble_eq_true rfl, Nat.le_of_ble_eq_true rfl⟩ rfl hl.1 rfl (Nat.le_of_ble_eq_true rfl) dX5_leavesRests_12 (fun o w' H locs hp hB => ?_)
    obtain ⟨x2, rfl, rfl⟩ := hp
    refine W.eq (g2 := F0 m 15 ls [.long x2]) rfl ?_
    refine lv_lconst (v := 0) hx hb dX5_leavesRests_15 (by decide) ?_
    refine W.lcmp hx hb dX5_leavesRests_16 ?_
    refine lv_if_ne (tgt := 22) hx hb dX5_leavesRests_17 (by decide) (fun c3 => ?_) (fun c3 => ?_)
    · refine lv_aload_n hx hb dX5_leavesRests_22 rfl (lv_at hl 0 rfl) ?_
      refine gf hX hB cw0 rfl in5 3 (by decide) wm_1_140 rfl rfl dX5_leavesRests_23 ?_
      refine lv_aload_n hx hb dX5_leavesRests_26 rfl (lv_at hl 1 rfl) ?_
      refine call_V (n := 1) (As := [.ref (a (6 + 2 * i))]) (rest := []) hX hB (k_X4_walk κ l a r q f i hi) ⟨rfl, by decide, by decide, by decide +kernel⟩ wm_1_200 wm_1_201 wm_1_202 wm_1_3 wm_1_203 ⟨Nat.le_of_ble_eq_true rfl, Nat.le_of_ble_eq_true rfl⟩ ⟨Nat.le_of_ble_eq_true rfl, Nat.le_of_ble_eq_true rfl⟩ cw2 rfl rfl rfl hl.1 rfl (Nat.le_of_ble_eq_true rfl) dX5_leavesRests_27 (fun o w' H locs hp hB => ?_)
      obtain ⟨r4, q6, f8, rfl, ho5, hq7, rfl⟩ := hp
      refine W.eq (g2 := F0 m 30 ls []) rfl ?_
      refine lv_aload_n hx hb dX5_leavesRests_30 rfl (lv_at hl 0 rfl) ?_
      refine gf hX hB cw0 rfl in5 3 (by decide) wm_1_140 rfl rfl dX5_leavesRests_31 ?_
      refine gfN hX hB cw2 rfl in4 2 (by decide) wn_1_79 rfl rfl dX5_leavesRests_34 ?_
      refine lv_if_ne (tgt := 44) hx hb dX5_leavesRests_37 (by decide) (fun c9 => ?_) (fun c9 => ?_)
      · refine lv_iconst (v := 0) hx hb dX5_leavesRests_44 (by decide) ?_
        rw [← hQ]
        exact end_i hX hB hA3 rfl rfl ⟨0, r4, q6, f8, rfl, Or.inl rfl, (fun h => ho5 ((fun h => h) h)), (hq7.trans rfl), rfl⟩ (Nat.le_of_ble_eq_true rfl) (Nat.le_of_ble_eq_true rfl) dX5_leavesRests_45
      · refine lv_iconst (v := 1) hx hb dX5_leavesRests_40 (by decide) ?_
        refine lv_goto (tgt := 45) hx hb dX5_leavesRests_41 (by decide) ?_
        rw [← hQ]
        exact end_i hX hB hA3 rfl rfl ⟨1, r4, q6, f8, rfl, Or.inr rfl, (fun h => ho5 ((fun h => h) h)), (hq7.trans rfl), rfl⟩ (Nat.le_of_ble_eq_true rfl) (Nat.le_of_ble_eq_true rfl) dX5_leavesRests_45
    · refine lv_iconst (v := 0) hx hb dX5_leavesRests_20 (by decide) ?_
      rw [← hQ]
      exact end_i hX hB hA3 rfl rfl ⟨0, r, q, f, rfl, Or.inl rfl, (fun h => h), rfl, rfl⟩ (Nat.le_of_ble_eq_true rfl) (Nat.le_of_ble_eq_true rfl) dX5_leavesRests_21
set_option maxHeartbeats 4000000 in
set_option maxRecDepth 100000 in
theorem k_X5_rowNumber (κ : Kt) (l : Launch) (a : Nat → Nat) (r q : Nat → Int32) (f : Nat → Nat → Int64) (p0 : Int32)  : CM κ l yX5_rowNumber cX5_rowNumber 2 (some .long) 0 0 0 0 [.ref (a 0), .int p0] (cw κ a r q f) (fun o w' => ∃ x : Int64, o = some (.long x) ∧ w' = cw κ a r q f) := by
  refine CM_begin (plainFor_of_name (by decide)) (Nat.le_of_ble_eq_true rfl) ?_
  intro p e s m args below meth c A Q hX hnm hA3 hQ hB ls hl
  have hx := hX.1.1
  have hb := hX.1.2.1
  have hl : lv_has ls 2 [(0, .ref (a 0)), (1, .int p0)] := hl
  refine lv_iload_n hx hb dX5_rowNumber_0 rfl (lv_at hl 1 rfl) ?_
  refine lv_if_lt (tgt := 22) hx hb dX5_rowNumber_1 (by decide) (fun c1 => ?_) (fun c1 => ?_)
  · refine lv_lconst (v := 0) hx hb dX5_rowNumber_22 (by decide) ?_
    rw [← hQ]
    exact end_l hX hB hA3 rfl ⟨0, rfl, rfl⟩ (Nat.le_of_ble_eq_true rfl) (Nat.le_of_ble_eq_true rfl) dX5_rowNumber_23
  · refine lv_iload_n hx hb dX5_rowNumber_4 rfl (lv_at hl 1 rfl) ?_
    refine lv_aload_n hx hb dX5_rowNumber_5 rfl (lv_at hl 0 rfl) ?_
    refine gf hX hB cw0 rfl in5 6 (by decide) wm_1_143 rfl rfl dX5_rowNumber_6 ?_
    refine alenL (v := 4) hX hB cw5 rfl dX5_rowNumber_9 ?_
    refine lv_icmp_ge (tgt := 22) hx hb dX5_rowNumber_10 (by decide) (fun c2 => ?_) (fun c2 => ?_)
    · refine lv_lconst (v := 0) hx hb dX5_rowNumber_22 (by decide) ?_
      rw [← hQ]
      exact end_l hX hB hA3 rfl ⟨0, rfl, rfl⟩ (Nat.le_of_ble_eq_true rfl) (Nat.le_of_ble_eq_true rfl) dX5_rowNumber_23
    · refine lv_aload_n hx hb dX5_rowNumber_13 rfl (lv_at hl 0 rfl) ?_
      refine gf hX hB cw0 rfl in5 6 (by decide) wm_1_143 rfl rfl dX5_rowNumber_14 ?_
      refine lv_iload_n hx hb dX5_rowNumber_17 rfl (lv_at hl 1 rfl) ?_
      refine lald hX hB cw5 (in_of' (N := 4) rfl (by first | assumption | exact i32_not_le.mpr (by assumption)) (by first | assumption | exact i32_not_le.mpr (by assumption))) dX5_rowNumber_18 ?_
      refine lv_topl (fun g3 eg3 => ?_)
      refine lv_goto (tgt := 23) hx hb dX5_rowNumber_19 (by decide) ?_
      rw [← hQ]
      exact end_l hX hB hA3 rfl ⟨g3, rfl, rfl⟩ (Nat.le_of_ble_eq_true rfl) (Nat.le_of_ble_eq_true rfl) dX5_rowNumber_23
set_option maxHeartbeats 4000000 in
set_option maxRecDepth 100000 in
theorem k_X5_setRowNumber (κ : Kt) (l : Launch) (a : Nat → Nat) (r q : Nat → Int32) (f : Nat → Nat → Int64) (p0 : Int32) (p1 : Int64)  : CM κ l yX5_setRowNumber cX5_setRowNumber 4 (none) 0 0 0 0 [.ref (a 0), .int p0, .long p1] (cw κ a r q f) (fun o w' => ∃ f' : Nat → Nat → Int64, o = none ∧ w' = cw κ a r q f') := by
  refine CM_begin (plainFor_of_name (by decide)) (Nat.le_of_ble_eq_true rfl) ?_
  intro p e s m args below meth c A Q hX hnm hA3 hQ hB ls hl
  have hx := hX.1.1
  have hb := hX.1.2.1
  have hl : lv_has ls 4 [(0, .ref (a 0)), (1, .int p0), (2, .long p1)] := hl
  refine lv_iload_n hx hb dX5_setRowNumber_0 rfl (lv_at hl 1 rfl) ?_
  refine lv_if_lt (tgt := 20) hx hb dX5_setRowNumber_1 (by decide) (fun c1 => ?_) (fun c1 => ?_)
  · rw [← hQ]
    exact end_v hX hB hA3 rfl ⟨f, rfl, rfl⟩ (Nat.le_of_ble_eq_true rfl) (Nat.le_of_ble_eq_true rfl) dX5_setRowNumber_20
  · refine lv_iload_n hx hb dX5_setRowNumber_4 rfl (lv_at hl 1 rfl) ?_
    refine lv_aload_n hx hb dX5_setRowNumber_5 rfl (lv_at hl 0 rfl) ?_
    refine gf hX hB cw0 rfl in5 6 (by decide) wm_1_143 rfl rfl dX5_setRowNumber_6 ?_
    refine alenL (v := 4) hX hB cw5 rfl dX5_setRowNumber_9 ?_
    refine lv_icmp_ge (tgt := 20) hx hb dX5_setRowNumber_10 (by decide) (fun c2 => ?_) (fun c2 => ?_)
    · rw [← hQ]
      exact end_v hX hB hA3 rfl ⟨f, rfl, rfl⟩ (Nat.le_of_ble_eq_true rfl) (Nat.le_of_ble_eq_true rfl) dX5_setRowNumber_20
    · refine lv_aload_n hx hb dX5_setRowNumber_13 rfl (lv_at hl 0 rfl) ?_
      refine gf hX hB cw0 rfl in5 6 (by decide) wm_1_143 rfl rfl dX5_setRowNumber_14 ?_
      refine lv_iload_n hx hb dX5_setRowNumber_17 rfl (lv_at hl 1 rfl) ?_
      refine lv_lload_n hx hb dX5_setRowNumber_18 rfl (lv_at hl 2 rfl) ?_
      refine last hX hB cw5 (in_of' (N := 4) rfl (by first | assumption | exact i32_not_le.mpr (by assumption)) (by first | assumption | exact i32_not_le.mpr (by assumption))) (cwS5 _) dX5_setRowNumber_19 (fun H locs hB => ?_)
      rw [← hQ]
      exact end_v hX hB hA3 rfl ⟨(va_up f 15 (vp_updL (f 15) (p0).toNatClampNeg p1)), rfl, rfl⟩ (Nat.le_of_ble_eq_true rfl) (Nat.le_of_ble_eq_true rfl) dX5_setRowNumber_20
