noncomputable def D_X5_needTable (r : Nat → Int32) (q : Nat → Int32) (f : Nat → Nat → Int64) (p0 : Int32) : String × Nat := (if p0 < 0 then ("java/lang/IndexOutOfBoundsException", 0) else (if p0 < 4 then ("", (p0).toNatClampNeg) else ("java/lang/IndexOutOfBoundsException", 0)))
theorem D_X5_needTable_s {r : Nat → Int32} {q : Nat → Int32} {f : Nat → Nat → Int64} {p0 : Int32} : D_X5_needTable r q f p0 = (if p0 < 0 then ("java/lang/IndexOutOfBoundsException", 0) else (if p0 < 4 then ("", (p0).toNatClampNeg) else ("java/lang/IndexOutOfBoundsException", 0))) := rfl
set_option maxHeartbeats 4000000 in
set_option maxRecDepth 100000 in
theorem k_X5_needTable (κ : Kt) (l : Launch) (hst : l.stackTraces = false) (a : Nat → Nat) (r q : Nat → Int32) (f : Nat → Nat → Int64) (p0 : Int32)  (o_E : String) (o_x : Nat) (hR : D_X5_needTable r q f p0 = (o_E, o_x)) : CX κ l yX5_needTable cX5_needTable 2 (some (.object "Gridmender$Grid")) 6 90 1 6 [.ref (a 0), .int p0] (cw κ a r q f) (fun o w' => o_E = "" ∧ o_x < 4 ∧ o = some (.ref (a (6 + 2 * o_x))) ∧ w' = cw κ a r q f) (fun E w' => o_E = E ∧ o_E ∈ (["java/lang/IndexOutOfBoundsException"] : List String) ∧ w' = cw κ a r q f) := by
  refine CX_begin (by decide) (Nat.le_of_ble_eq_true rfl) ?_
  intro p e s m args below meth c A Q hX hne hA3 hQ hB ls hl
  have hx := hX.1.1
  have hb := hX.1.2.1
  have hl : lv_has ls 2 [(0, .ref (a 0)), (1, .int p0)] := hl
  replace hR := (D_X5_needTable_s).symm.trans hR
  refine lv_iload_n hx hb dX5_needTable_0 rfl (lv_at hl 1 rfl) ?_
  refine lv_if_lt (tgt := 9) hx hb dX5_needTable_1 (by decide) (fun c1 => ?_) (fun c1 => ?_)
  · replace hR := ifp c1 hR
    rw [← hQ]
    exact throw_TW (cls := "java/lang/IndexOutOfBoundsException") (text := "no such table") (nL := 2) hst hX hne hB hA3 rfl (by decide) wm_2_169 wm_1_12 (by decide) tw_275a tw_275b tw_275c hl.1 dX5_needTable_9 dX5_needTable_12 dX5_needTable_13 dX5_needTable_16 dX5_needTable_19 (Nat.le_of_ble_eq_true rfl) (Nat.le_of_ble_eq_true rfl) (Nat.le_of_ble_eq_true rfl) (Nat.le_of_ble_eq_true rfl) (by obtain ⟨rfl, rfl⟩ := pr2 hR; exact ⟨rfl, (by decide), rfl⟩) (Nat.le_of_ble_eq_true rfl) (Nat.le_of_ble_eq_true rfl)
  · replace hR := ifn c1 hR
    refine lv_iload_n hx hb dX5_needTable_4 rfl (lv_at hl 1 rfl) ?_
    refine lv_iconst (v := 4) hx hb dX5_needTable_5 (by decide) ?_
    refine lv_icmp_lt (tgt := 20) hx hb dX5_needTable_6 (by decide) (fun c2 => ?_) (fun c2 => ?_)
    · replace hR := ifp c2 hR
      refine lv_aload_n hx hb dX5_needTable_20 rfl (lv_at hl 0 rfl) ?_
      refine gf hX hB cw0 rfl in5 0 (by decide) wm_1_137 rfl rfl dX5_needTable_21 ?_
      refine lv_iload_n hx hb dX5_needTable_24 rfl (lv_at hl 1 rfl) ?_
      refine aaldG hX hB cw1 (in_of' (N := 4) rfl (by first | assumption | exact i32_not_le.mpr (by assumption)) (by first | assumption | exact i32_not_le.mpr (by assumption))) rfl dX5_needTable_25 ?_
      rw [← hQ]
      exact vx_ret ( end_a hX hB hA3 rfl (Or.inr ⟨_, rfl⟩) (by obtain ⟨rfl, rfl⟩ := pr2 hR; exact ⟨rfl, clamp_lt (in_of' (N := 4) rfl (by first | assumption | exact i32_not_le.mpr (by assumption)) (by first | assumption | exact i32_not_le.mpr (by assumption))), rfl, rfl⟩) (Nat.le_of_ble_eq_true rfl) (Nat.le_of_ble_eq_true rfl) dX5_needTable_26)
    · replace hR := ifn c2 hR
      rw [← hQ]
      exact throw_TW (cls := "java/lang/IndexOutOfBoundsException") (text := "no such table") (nL := 2) hst hX hne hB hA3 rfl (by decide) wm_2_169 wm_1_12 (by decide) tw_275a tw_275b tw_275c hl.1 dX5_needTable_9 dX5_needTable_12 dX5_needTable_13 dX5_needTable_16 dX5_needTable_19 (Nat.le_of_ble_eq_true rfl) (Nat.le_of_ble_eq_true rfl) (Nat.le_of_ble_eq_true rfl) (Nat.le_of_ble_eq_true rfl) (by obtain ⟨rfl, rfl⟩ := pr2 hR; exact ⟨rfl, (by decide), rfl⟩) (Nat.le_of_ble_eq_true rfl) (Nat.le_of_ble_eq_true rfl)
noncomputable def D_X5_needIndex (r : Nat → Int32) (q : Nat → Int32) (f : Nat → Nat → Int64) (p0 : Int32) : String := (if p0 = 0 then "java/lang/IndexOutOfBoundsException" else "")
theorem D_X5_needIndex_s {r : Nat → Int32} {q : Nat → Int32} {f : Nat → Nat → Int64} {p0 : Int32} : D_X5_needIndex r q f p0 = (if p0 = 0 then "java/lang/IndexOutOfBoundsException" else "") := rfl
set_option maxHeartbeats 4000000 in
set_option maxRecDepth 100000 in
theorem k_X5_needIndex (κ : Kt) (l : Launch) (hst : l.stackTraces = false) (a : Nat → Nat) (r q : Nat → Int32) (f : Nat → Nat → Int64) (p0 : Int32)  (o_E : String) (hR : D_X5_needIndex r q f p0 = o_E) : CX κ l yX5_needIndex cX5_needIndex 1 (none) 6 90 1 6 [.int p0] (cw κ a r q f) (fun o w' => o_E = "" ∧ o = none ∧ w' = cw κ a r q f) (fun E w' => o_E = E ∧ o_E ∈ (["java/lang/IndexOutOfBoundsException"] : List String) ∧ w' = cw κ a r q f) := by
  refine CX_begin (by decide) (Nat.le_of_ble_eq_true rfl) ?_
  intro p e s m args below meth c A Q hX hne hA3 hQ hB ls hl
  have hx := hX.1.1
  have hb := hX.1.2.1
  have hl : lv_has ls 1 [(0, .int p0)] := hl
  replace hR := (D_X5_needIndex_s).symm.trans hR
  refine lv_iload_n hx hb dX5_needIndex_0 rfl (lv_at hl 0 rfl) ?_
  refine lv_if_ne (tgt := 15) hx hb dX5_needIndex_1 (by decide) (fun c1 => ?_) (fun c1 => ?_)
  · replace hR := ifn c1 hR
    rw [← hQ]
    exact vx_ret ( end_v hX hB hA3 rfl (by obtain rfl := hR; exact ⟨rfl, rfl, rfl⟩) (Nat.le_of_ble_eq_true rfl) (Nat.le_of_ble_eq_true rfl) dX5_needIndex_15)
  · replace hR := ifp c1 hR
    rw [← hQ]
    exact throw_TW (cls := "java/lang/IndexOutOfBoundsException") (text := "no such row or column") (nL := 1) hst hX hne hB hA3 rfl (by decide) wm_2_169 wm_1_12 (by decide) tw_275a tw_275b tw_275c hl.1 dX5_needIndex_4 dX5_needIndex_7 dX5_needIndex_8 dX5_needIndex_11 dX5_needIndex_14 (Nat.le_of_ble_eq_true rfl) (Nat.le_of_ble_eq_true rfl) (Nat.le_of_ble_eq_true rfl) (Nat.le_of_ble_eq_true rfl) (by obtain rfl := hR; exact ⟨rfl, (by decide), rfl⟩) (Nat.le_of_ble_eq_true rfl) (Nat.le_of_ble_eq_true rfl)
noncomputable def D_X5_needArgument (r : Nat → Int32) (q : Nat → Int32) (f : Nat → Nat → Int64) (p0 : Int32) : String := (if p0 = 0 then "java/lang/IllegalArgumentException" else "")
theorem D_X5_needArgument_s {r : Nat → Int32} {q : Nat → Int32} {f : Nat → Nat → Int64} {p0 : Int32} : D_X5_needArgument r q f p0 = (if p0 = 0 then "java/lang/IllegalArgumentException" else "") := rfl
set_option maxHeartbeats 4000000 in
set_option maxRecDepth 100000 in
theorem k_X5_needArgument (κ : Kt) (l : Launch) (hst : l.stackTraces = false) (a : Nat → Nat) (r q : Nat → Int32) (f : Nat → Nat → Int64) (p0 : Int32)  (o_E : String) (hR : D_X5_needArgument r q f p0 = o_E) : CX κ l yX5_needArgument cX5_needArgument 1 (none) 6 90 1 6 [.int p0] (cw κ a r q f) (fun o w' => o_E = "" ∧ o = none ∧ w' = cw κ a r q f) (fun E w' => o_E = E ∧ o_E ∈ (["java/lang/IllegalArgumentException"] : List String) ∧ w' = cw κ a r q f) := by
  refine CX_begin (by decide) (Nat.le_of_ble_eq_true rfl) ?_
  intro p e s m args below meth c A Q hX hne hA3 hQ hB ls hl
  have hx := hX.1.1
  have hb := hX.1.2.1
  have hl : lv_has ls 1 [(0, .int p0)] := hl
  replace hR := (D_X5_needArgument_s).symm.trans hR
  refine lv_iload_n hx hb dX5_needArgument_0 rfl (lv_at hl 0 rfl) ?_
  refine lv_if_ne (tgt := 15) hx hb dX5_needArgument_1 (by decide) (fun c1 => ?_) (fun c1 => ?_)
  · replace hR := ifn c1 hR
    rw [← hQ]
    exact vx_ret ( end_v hX hB hA3 rfl (by obtain rfl := hR; exact ⟨rfl, rfl, rfl⟩) (Nat.le_of_ble_eq_true rfl) (Nat.le_of_ble_eq_true rfl) dX5_needArgument_15)
  · replace hR := ifp c1 hR
    rw [← hQ]
    exact throw_TW (cls := "java/lang/IllegalArgumentException") (text := "not allowed here") (nL := 1) hst hX hne hB hA3 rfl (by decide) wm_3_3 wm_1_13 (by decide) tw_282a tw_282b tw_282c hl.1 dX5_needArgument_4 dX5_needArgument_7 dX5_needArgument_8 dX5_needArgument_11 dX5_needArgument_14 (Nat.le_of_ble_eq_true rfl) (Nat.le_of_ble_eq_true rfl) (Nat.le_of_ble_eq_true rfl) (Nat.le_of_ble_eq_true rfl) (by obtain rfl := hR; exact ⟨rfl, (by decide), rfl⟩) (Nat.le_of_ble_eq_true rfl) (Nat.le_of_ble_eq_true rfl)
noncomputable def D_X5_needState (r : Nat → Int32) (q : Nat → Int32) (f : Nat → Nat → Int64) (p0 : Int32) : String := (if p0 = 0 then "java/lang/IllegalStateException" else "")
theorem D_X5_needState_s {r : Nat → Int32} {q : Nat → Int32} {f : Nat → Nat → Int64} {p0 : Int32} : D_X5_needState r q f p0 = (if p0 = 0 then "java/lang/IllegalStateException" else "") := rfl
set_option maxHeartbeats 4000000 in
set_option maxRecDepth 100000 in
theorem k_X5_needState (κ : Kt) (l : Launch) (hst : l.stackTraces = false) (a : Nat → Nat) (r q : Nat → Int32) (f : Nat → Nat → Int64) (p0 : Int32)  (o_E : String) (hR : D_X5_needState r q f p0 = o_E) : CX κ l yX5_needState cX5_needState 1 (none) 6 90 1 6 [.int p0] (cw κ a r q f) (fun o w' => o_E = "" ∧ o = none ∧ w' = cw κ a r q f) (fun E w' => o_E = E ∧ o_E ∈ (["java/lang/IllegalStateException"] : List String) ∧ w' = cw κ a r q f) := by
  refine CX_begin (by decide) (Nat.le_of_ble_eq_true rfl) ?_
  intro p e s m args below meth c A Q hX hne hA3 hQ hB ls hl
  have hx := hX.1.1
  have hb := hX.1.2.1
  have hl : lv_has ls 1 [(0, .int p0)] := hl
  replace hR := (D_X5_needState_s).symm.trans hR
  refine lv_iload_n hx hb dX5_needState_0 rfl (lv_at hl 0 rfl) ?_
  refine lv_if_ne (tgt := 15) hx hb dX5_needState_1 (by decide) (fun c1 => ?_) (fun c1 => ?_)
  · replace hR := ifn c1 hR
    rw [← hQ]
    exact vx_ret ( end_v hX hB hA3 rfl (by obtain rfl := hR; exact ⟨rfl, rfl, rfl⟩) (Nat.le_of_ble_eq_true rfl) (Nat.le_of_ble_eq_true rfl) dX5_needState_15)
  · replace hR := ifp c1 hR
    rw [← hQ]
    exact throw_TW (cls := "java/lang/IllegalStateException") (text := "the table does not allow it") (nL := 1) hst hX hne hB hA3 rfl (by decide) wm_5_29 wm_1_28 (by decide) tw_227a tw_227b tw_227c hl.1 dX5_needState_4 dX5_needState_7 dX5_needState_8 dX5_needState_11 dX5_needState_14 (Nat.le_of_ble_eq_true rfl) (Nat.le_of_ble_eq_true rfl) (Nat.le_of_ble_eq_true rfl) (Nat.le_of_ble_eq_true rfl) (by obtain rfl := hR; exact ⟨rfl, (by decide), rfl⟩) (Nat.le_of_ble_eq_true rfl) (Nat.le_of_ble_eq_true rfl)
noncomputable def D_X5_isCount (p0 : Int32) : Int32 := (if p0 < 1 then 0 else (if 4 < p0 then 0 else 1))
theorem D_X5_isCount_s {p0 : Int32} : D_X5_isCount p0 = (if p0 < 1 then 0 else (if 4 < p0 then 0 else 1)) := rfl
set_option maxHeartbeats 4000000 in
set_option maxRecDepth 100000 in
theorem k_X5_isCount (κ : Kt) (l : Launch) (w : va_W) (p0 : Int32)  (o_x : Int32) (hR : D_X5_isCount p0 = o_x) : CM κ l yX5_isCount cX5_isCount 1 (some .boolean) 0 0 0 0 [.int p0] (w) (fun o w' => o = some (.int o_x) ∧ (o_x = 0 ∨ o_x = 1) ∧ w' = w) := by
  refine CM_begin (plainFor_of_name (by decide)) (Nat.le_of_ble_eq_true rfl) ?_
  intro p e s m args below meth c A Q hX hnm hA3 hQ hB ls hl
  have hx := hX.1.1
  have hb := hX.1.2.1
  have hl : lv_has ls 1 [(0, .int p0)] := hl
  replace hR := (D_X5_isCount_s).symm.trans hR
  refine lv_iload_n hx hb dX5_isCount_0 rfl (lv_at hl 0 rfl) ?_
  refine lv_iconst (v := 1) hx hb dX5_isCount_1 (by decide) ?_
  refine lv_icmp_lt (tgt := 14) hx hb dX5_isCount_2 (by decide) (fun c1 => ?_) (fun c1 => ?_)
  · replace hR := ifp c1 hR
    refine lv_iconst (v := 0) hx hb dX5_isCount_14 (by decide) ?_
    rw [← hQ]
    exact end_i hX hB hA3 rfl rfl (by obtain rfl := hR; exact ⟨rfl, Or.inl rfl, rfl⟩) (Nat.le_of_ble_eq_true rfl) (Nat.le_of_ble_eq_true rfl) dX5_isCount_15
  · replace hR := ifn c1 hR
    refine lv_iload_n hx hb dX5_isCount_5 rfl (lv_at hl 0 rfl) ?_
    refine lv_iconst (v := 4) hx hb dX5_isCount_6 (by decide) ?_
    refine lv_icmp_gt (tgt := 14) hx hb dX5_isCount_7 (by decide) (fun c2 => ?_) (fun c2 => ?_)
    · replace hR := ifp c2 hR
      refine lv_iconst (v := 0) hx hb dX5_isCount_14 (by decide) ?_
      rw [← hQ]
      exact end_i hX hB hA3 rfl rfl (by obtain rfl := hR; exact ⟨rfl, Or.inl rfl, rfl⟩) (Nat.le_of_ble_eq_true rfl) (Nat.le_of_ble_eq_true rfl) dX5_isCount_15
    · replace hR := ifn c2 hR
      refine lv_iconst (v := 1) hx hb dX5_isCount_10 (by decide) ?_
      refine lv_goto (tgt := 15) hx hb dX5_isCount_11 (by decide) ?_
      rw [← hQ]
      exact end_i hX hB hA3 rfl rfl (by obtain rfl := hR; exact ⟨rfl, Or.inr rfl, rfl⟩) (Nat.le_of_ble_eq_true rfl) (Nat.le_of_ble_eq_true rfl) dX5_isCount_15
noncomputable def D_X5_isForm (p0 : Int32) : Int32 := (if p0 < 0 then 0 else (if 4 < p0 then 0 else 1))
theorem D_X5_isForm_s {p0 : Int32} : D_X5_isForm p0 = (if p0 < 0 then 0 else (if 4 < p0 then 0 else 1)) := rfl
set_option maxHeartbeats 4000000 in
set_option maxRecDepth 100000 in
theorem k_X5_isForm (κ : Kt) (l : Launch) (w : va_W) (p0 : Int32)  (o_x : Int32) (hR : D_X5_isForm p0 = o_x) : CM κ l yX5_isForm cX5_isForm 1 (some .boolean) 0 0 0 0 [.int p0] (w) (fun o w' => o = some (.int o_x) ∧ (o_x = 0 ∨ o_x = 1) ∧ w' = w) := by
  refine CM_begin (plainFor_of_name (by decide)) (Nat.le_of_ble_eq_true rfl) ?_
  intro p e s m args below meth c A Q hX hnm hA3 hQ hB ls hl
  have hx := hX.1.1
  have hb := hX.1.2.1
  have hl : lv_has ls 1 [(0, .int p0)] := hl
  replace hR := (D_X5_isForm_s).symm.trans hR
  refine lv_iload_n hx hb dX5_isForm_0 rfl (lv_at hl 0 rfl) ?_
  refine lv_if_lt (tgt := 13) hx hb dX5_isForm_1 (by decide) (fun c1 => ?_) (fun c1 => ?_)
  · replace hR := ifp c1 hR
    refine lv_iconst (v := 0) hx hb dX5_isForm_13 (by decide) ?_
    rw [← hQ]
    exact end_i hX hB hA3 rfl rfl (by obtain rfl := hR; exact ⟨rfl, Or.inl rfl, rfl⟩) (Nat.le_of_ble_eq_true rfl) (Nat.le_of_ble_eq_true rfl) dX5_isForm_14
  · replace hR := ifn c1 hR
    refine lv_iload_n hx hb dX5_isForm_4 rfl (lv_at hl 0 rfl) ?_
    refine lv_iconst (v := 4) hx hb dX5_isForm_5 (by decide) ?_
    refine lv_icmp_gt (tgt := 13) hx hb dX5_isForm_6 (by decide) (fun c2 => ?_) (fun c2 => ?_)
    · replace hR := ifp c2 hR
      refine lv_iconst (v := 0) hx hb dX5_isForm_13 (by decide) ?_
      rw [← hQ]
      exact end_i hX hB hA3 rfl rfl (by obtain rfl := hR; exact ⟨rfl, Or.inl rfl, rfl⟩) (Nat.le_of_ble_eq_true rfl) (Nat.le_of_ble_eq_true rfl) dX5_isForm_14
    · replace hR := ifn c2 hR
      refine lv_iconst (v := 1) hx hb dX5_isForm_9 (by decide) ?_
      refine lv_goto (tgt := 14) hx hb dX5_isForm_10 (by decide) ?_
      rw [← hQ]
      exact end_i hX hB hA3 rfl rfl (by obtain rfl := hR; exact ⟨rfl, Or.inr rfl, rfl⟩) (Nat.le_of_ble_eq_true rfl) (Nat.le_of_ble_eq_true rfl) dX5_isForm_14
noncomputable def D_X5_tellDone (r : Nat → Int32) (q : Nat → Int32) (f : Nat → Nat → Int64) (p0 : Int32) : Int32 × (Nat → Int32) × (Nat → Nat → Int64) := (p0, va_up q 2 ((q 2) + 1), f)
theorem D_X5_tellDone_s {r : Nat → Int32} {q : Nat → Int32} {f : Nat → Nat → Int64} {p0 : Int32} : D_X5_tellDone r q f p0 = (p0, va_up q 2 ((q 2) + 1), f) := rfl
set_option maxHeartbeats 4000000 in
set_option maxRecDepth 100000 in
theorem k_X5_tellDone (κ : Kt) (l : Launch) (a : Nat → Nat) (r q : Nat → Int32) (f : Nat → Nat → Int64) (p0 : Int32)  (o_x : Int32) (o_q : Nat → Int32) (o_f : Nat → Nat → Int64) (hR : D_X5_tellDone r q f p0 = (o_x, o_q, o_f)) : CM κ l yX5_tellDone cX5_tellDone 2 (some .int) 0 0 0 0 [.ref (a 0), .int p0] (cw κ a r q f) (fun o w' => o = some (.int o_x) ∧ o_q 4 = q 4 ∧ w' = cw κ a r o_q o_f) := by
  refine CM_begin (plainFor_of_name (by decide)) (Nat.le_of_ble_eq_true rfl) ?_
  intro p e s m args below meth c A Q hX hnm hA3 hQ hB ls hl
  have hx := hX.1.1
  have hb := hX.1.2.1
  have hl : lv_has ls 2 [(0, .ref (a 0)), (1, .int p0)] := hl
  replace hR := (D_X5_tellDone_s).symm.trans hR
  refine lv_aload_n hx hb dX5_tellDone_0 rfl (lv_at hl 0 rfl) ?_
  refine lv_dup hx hb dX5_tellDone_1 rfl ?_
  refine gf hX hB cw0 rfl in5 7 (by decide) wm_1_144 rfl rfl dX5_tellDone_2 ?_
  refine lv_iconst (v := 1) hx hb dX5_tellDone_5 (by decide) ?_
  refine lv_iadd hx hb dX5_tellDone_6 ?_
  refine pf (ty := .int) hX hB cw0 rfl in5 tyX5_ok nmX5 7 (by decide) wm_1_144 rfl rfl rfl rfl rfl (Nat.le_of_ble_eq_true rfl) (cwSQ2 _) dX5_tellDone_7 (fun H locs hB => ?_)
  refine lv_iload_n hx hb dX5_tellDone_10 rfl (lv_at hl 1 rfl) ?_
  rw [← hQ]
  exact end_i hX hB hA3 rfl rfl (by obtain ⟨rfl, rfl, rfl⟩ := pr3 hR; exact ⟨rfl, rfl, rfl⟩) (Nat.le_of_ble_eq_true rfl) (Nat.le_of_ble_eq_true rfl) dX5_tellDone_11
noncomputable def D_X5_tellRefused (r : Nat → Int32) (q : Nat → Int32) (f : Nat → Nat → Int64) : Int32 × (Nat → Int32) × (Nat → Nat → Int64) := (-9, va_up q 3 ((q 3) + 1), f)
theorem D_X5_tellRefused_s {r : Nat → Int32} {q : Nat → Int32} {f : Nat → Nat → Int64} : D_X5_tellRefused r q f = (-9, va_up q 3 ((q 3) + 1), f) := rfl
set_option maxHeartbeats 4000000 in
set_option maxRecDepth 100000 in
theorem k_X5_tellRefused (κ : Kt) (l : Launch) (a : Nat → Nat) (r q : Nat → Int32) (f : Nat → Nat → Int64)  (o_x : Int32) (o_q : Nat → Int32) (o_f : Nat → Nat → Int64) (hR : D_X5_tellRefused r q f = (o_x, o_q, o_f)) : CM κ l yX5_tellRefused cX5_tellRefused 1 (some .int) 0 0 0 0 [.ref (a 0)] (cw κ a r q f) (fun o w' => o = some (.int o_x) ∧ o_q 4 = q 4 ∧ w' = cw κ a r o_q o_f) := by
  refine CM_begin (plainFor_of_name (by decide)) (Nat.le_of_ble_eq_true rfl) ?_
  intro p e s m args below meth c A Q hX hnm hA3 hQ hB ls hl
  have hx := hX.1.1
  have hb := hX.1.2.1
  have hl : lv_has ls 1 [(0, .ref (a 0))] := hl
  replace hR := (D_X5_tellRefused_s).symm.trans hR
  refine lv_aload_n hx hb dX5_tellRefused_0 rfl (lv_at hl 0 rfl) ?_
  refine lv_dup hx hb dX5_tellRefused_1 rfl ?_
  refine gf hX hB cw0 rfl in5 8 (by decide) wm_1_145 rfl rfl dX5_tellRefused_2 ?_
  refine lv_iconst (v := 1) hx hb dX5_tellRefused_5 (by decide) ?_
  refine lv_iadd hx hb dX5_tellRefused_6 ?_
  refine pf (ty := .int) hX hB cw0 rfl in5 tyX5_ok nmX5 8 (by decide) wm_1_145 rfl rfl rfl rfl rfl (Nat.le_of_ble_eq_true rfl) (cwSQ3 _) dX5_tellRefused_7 (fun H locs hB => ?_)
  refine lv_bipush (v := (-9)) hx hb dX5_tellRefused_10 (by decide) ?_
  rw [← hQ]
  exact end_i hX hB hA3 rfl rfl (by obtain ⟨rfl, rfl, rfl⟩ := pr3 hR; exact ⟨rfl, rfl, rfl⟩) (Nat.le_of_ble_eq_true rfl) (Nat.le_of_ble_eq_true rfl) dX5_tellRefused_12
noncomputable def D_X5_settleChange (r : Nat → Int32) (q : Nat → Int32) (f : Nat → Nat → Int64) (i : Nat) : Int32 × (Nat → Int32) × (Nat → Int32) × (Nat → Nat → Int64) := bnd1 (D_X3_isWithin r q f 4 20) (fun (x2 : Int32) => (if x2 = 0 then bnd3 (D_X5_tellRefused r q f) (fun (x18 : Int32) (q19 : Nat → Int32) (f21 : Nat → Nat → Int64) => (x18, r, q19, f21)) else bnd1 (D_X3_countUnlike r q f i 4) (fun (x5 : Int32) => bnd3 (D_X3_becomeLike r q f i 4) (fun (r7 : Nat → Int32) (q9 : Nat → Int32) (f11 : Nat → Nat → Int64) => bnd3 (D_X5_tellDone r7 q9 f11 x5) (fun (x13 : Int32) (q14 : Nat → Int32) (f16 : Nat → Nat → Int64) => (x13, r7, q14, f16))))))
theorem D_X5_settleChange_s {r : Nat → Int32} {q : Nat → Int32} {f : Nat → Nat → Int64} {i : Nat} : D_X5_settleChange r q f i = bnd1 (D_X3_isWithin r q f 4 20) (fun (x2 : Int32) => (if x2 = 0 then bnd3 (D_X5_tellRefused r q f) (fun (x18 : Int32) (q19 : Nat → Int32) (f21 : Nat → Nat → Int64) => (x18, r, q19, f21)) else bnd1 (D_X3_countUnlike r q f i 4) (fun (x5 : Int32) => bnd3 (D_X3_becomeLike r q f i 4) (fun (r7 : Nat → Int32) (q9 : Nat → Int32) (f11 : Nat → Nat → Int64) => bnd3 (D_X5_tellDone r7 q9 f11 x5) (fun (x13 : Int32) (q14 : Nat → Int32) (f16 : Nat → Nat → Int64) => (x13, r7, q14, f16)))))) := rfl
set_option maxHeartbeats 4000000 in
set_option maxRecDepth 100000 in
theorem k_X5_settleChange (κ : Kt) (l : Launch) (a : Nat → Nat) (r q : Nat → Int32) (f : Nat → Nat → Int64) (i : Nat) (hi : i < 15) (o_x : Int32) (o_r : Nat → Int32) (o_q : Nat → Int32) (o_f : Nat → Nat → Int64) (hR : D_X5_settleChange r q f i = (o_x, o_r, o_q, o_f)) : CM κ l yX5_settleChange cX5_settleChange 3 (some .int) 2 46 0 0 [.ref (a 0), .ref (a (6 + 2 * i))] (cw κ a r q f) (fun o w' => o = some (.int o_x) ∧ (okr r → okr o_r) ∧ o_q 4 = q 4 ∧ w' = cw κ a o_r o_q o_f) := by
  refine CM_begin (plainFor_of_name (by decide)) (Nat.le_of_ble_eq_true rfl) ?_
  intro p e s m args below meth c A Q hX hnm hA3 hQ hB ls hl
  have hx := hX.1.1
  have hb := hX.1.2.1
  have hl : lv_has ls 3 [(0, .ref (a 0)), (1, .ref (a (6 + 2 * i)))] := hl
  replace hR := (D_X5_settleChange_s).symm.trans hR
  refine lv_aload_n hx hb dX5_settleChange_0 rfl (lv_at hl 0 rfl) ?_
  refine gf hX hB cw0 rfl in5 1 (by decide) wm_1_138 rfl rfl dX5_settleChange_1 ?_
  refine lv_ldc2 (own := RX5) (v := 20) hx hb hX.1.2.2.2.1 (hX.1.2.2.2.2 _ wm_3_101) dX5_settleChange_4 ?_
  obtain ⟨x2, hd1⟩ := ex1 (D_X3_isWithin r q f 4 20)
  replace hR := bnd1_use hd1 hR
  refine call_V (n := 1) (As := [.long 20]) (rest := []) hX hB (k_X3_isWithin κ l a r q f 4 20 (by decide) x2 hd1) ⟨rfl, by decide, by decide, by decide +kernel⟩ wm_3_102 wm_2_28 wm_2_29 wm_1_2 wm_2_30 ⟨Nat.le_of_ble_eq_true rfl, Nat.le_of_ble_eq_true rfl⟩ ⟨Nat.le_of_ble_eq_true rfl, Nat.le_of_ble_eq_true rfl⟩ (cwG (i := 4) (by decide)) rfl rfl rfl hl.1 rfl (Nat.le_of_ble_eq_true rfl) dX5_settleChange_7 (fun o w' H locs hp hB => ?_)
  obtain ⟨rfl, bx2, rfl⟩ := hp
  refine W.eq (g2 := F0 m 10 ls [.int x2]) rfl ?_
  refine lv_if_ne (tgt := 18) hx hb dX5_settleChange_10 (by decide) (fun c3 => ?_) (fun c3 => ?_)
  · replace hR := ifn c3 hR
    refine lv_aload_n hx hb dX5_settleChange_18 rfl (lv_at hl 1 rfl) ?_
    refine lv_aload_n hx hb dX5_settleChange_19 rfl (lv_at hl 0 rfl) ?_
    refine gf hX hB cw0 rfl in5 1 (by decide) wm_1_138 rfl rfl dX5_settleChange_20 ?_
    obtain ⟨x5, hd4⟩ := ex1 (D_X3_countUnlike r q f i 4)
    replace hR := bnd1_use hd4 hR
    refine call_V (n := 1) (As := [.ref (a 14)]) (rest := []) hX hB (k_X3_countUnlike κ l a r q f i 4 hi (by decide) x5 hd4) ⟨rfl, by decide, by decide, by decide +kernel⟩ wm_3_107 wm_2_49 wm_2_50 wm_1_2 wm_2_51 ⟨Nat.le_of_ble_eq_true rfl, Nat.le_of_ble_eq_true rfl⟩ ⟨Nat.le_of_ble_eq_true rfl, Nat.le_of_ble_eq_true rfl⟩ (cwG (i := i) hi) rfl rfl rfl hl.1 rfl (Nat.le_of_ble_eq_true rfl) dX5_settleChange_23 (fun o w' H locs hp hB => ?_)
    obtain ⟨rfl, rfl⟩ := hp
    refine W.eq (g2 := F0 m 26 ls [.int x5]) rfl ?_
    refine lv_istore_n (lv' := [(2, .int x5), (0, .ref (a 0)), (1, .ref (a (6 + 2 * i)))]) hx hb dX5_settleChange_26 rfl hl (by decide) rfl (fun ls hl => ?_)
    refine lv_aload_n hx hb dX5_settleChange_27 rfl (lv_at hl 2 rfl) ?_
    refine lv_aload_n hx hb dX5_settleChange_28 rfl (lv_at hl 1 rfl) ?_
    refine gf hX hB cw0 rfl in5 1 (by decide) wm_1_138 rfl rfl dX5_settleChange_29 ?_
    obtain ⟨r7, q9, f11, hd6⟩ := ex3 (D_X3_becomeLike r q f i 4)
    replace hR := bnd3_use hd6 hR
    refine call_V (n := 1) (As := [.ref (a 14)]) (rest := []) hX hB (k_X3_becomeLike κ l a r q f i 4 hi (by decide) r7 q9 f11 hd6) ⟨rfl, by decide, by decide, by decide +kernel⟩ wm_3_74 wm_1_205 wm_1_206 wm_1_2 wm_1_207 ⟨Nat.le_of_ble_eq_true rfl, Nat.le_of_ble_eq_true rfl⟩ ⟨Nat.le_of_ble_eq_true rfl, Nat.le_of_ble_eq_true rfl⟩ (cwG (i := i) hi) rfl rfl rfl hl.1 rfl (Nat.le_of_ble_eq_true rfl) dX5_settleChange_32 (fun o w' H locs hp hB => ?_)
    obtain ⟨rfl, ho8, hq10, rfl⟩ := hp
    refine W.eq (g2 := F0 m 35 ls []) rfl ?_
    refine lv_aload_n hx hb dX5_settleChange_35 rfl (lv_at hl 1 rfl) ?_
    refine lv_iload_n hx hb dX5_settleChange_36 rfl (lv_at hl 0 rfl) ?_
    obtain ⟨x13, q14, f16, hd12⟩ := ex3 (D_X5_tellDone r7 q9 f11 x5)
    replace hR := bnd3_use hd12 hR
    refine call_V (n := 1) (As := [.int x5]) (rest := []) hX hB (k_X5_tellDone κ l a r7 q9 f11 x5 x13 q14 f16 hd12) ⟨rfl, by decide, by decide, by decide +kernel⟩ wm_3_24 wm_3_26 wp_19 wm_1_1 wm_3_27 ⟨Nat.le_of_ble_eq_true rfl, Nat.le_of_ble_eq_true rfl⟩ ⟨Nat.le_of_ble_eq_true rfl, Nat.le_of_ble_eq_true rfl⟩ cw0 rfl rfl rfl hl.1 rfl (Nat.le_of_ble_eq_true rfl) dX5_settleChange_37 (fun o w' H locs hp hB => ?_)
    obtain ⟨rfl, hq15, rfl⟩ := hp
    refine W.eq (g2 := F0 m 40 ls [.int x13]) rfl ?_
    rw [← hQ]
    exact end_i hX hB hA3 rfl rfl (by obtain ⟨rfl, rfl, rfl, rfl⟩ := pr4 hR; exact ⟨rfl, (fun h => ho8 ((fun h => h) h)), (hq15.trans (hq10.trans rfl)), rfl⟩) (Nat.le_of_ble_eq_true rfl) (Nat.le_of_ble_eq_true rfl) dX5_settleChange_40
  · replace hR := ifp c3 hR
    refine lv_aload_n hx hb dX5_settleChange_13 rfl (lv_at hl 0 rfl) ?_
    obtain ⟨x18, q19, f21, hd17⟩ := ex3 (D_X5_tellRefused r q f)
    replace hR := bnd3_use hd17 hR
    refine call_V (n := 0) (As := []) (rest := []) hX hB (k_X5_tellRefused κ l a r q f x18 q19 f21 hd17) ⟨rfl, by decide, by decide, by decide +kernel⟩ wm_3_103 wm_3_105 wp_21 wm_1_1 wm_3_106 ⟨Nat.le_of_ble_eq_true rfl, Nat.le_of_ble_eq_true rfl⟩ ⟨Nat.le_of_ble_eq_true rfl, Nat.le_of_ble_eq_true rfl⟩ cw0 rfl rfl rfl hl.1 rfl (Nat.le_of_ble_eq_true rfl) dX5_settleChange_14 (fun o w' H locs hp hB => ?_)
    obtain ⟨rfl, hq20, rfl⟩ := hp
    refine W.eq (g2 := F0 m 17 ls [.int x18]) rfl ?_
    rw [← hQ]
    exact end_i hX hB hA3 rfl rfl (by obtain ⟨rfl, rfl, rfl, rfl⟩ := pr4 hR; exact ⟨rfl, (fun h => h), (hq20.trans rfl), rfl⟩) (Nat.le_of_ble_eq_true rfl) (Nat.le_of_ble_eq_true rfl) dX5_settleChange_17
noncomputable def D_X5_settleForm (r : Nat → Int32) (q : Nat → Int32) (f : Nat → Nat → Int64) (i : Nat) (j : Nat) : Int32 × (Nat → Int32) × (Nat → Int32) × (Nat → Nat → Int64) := bnd1 (D_X3_isWithin r q f i 20) (fun (x2 : Int32) => (if x2 = 0 then bnd3 (D_X5_tellRefused r q f) (fun (x18 : Int32) (q19 : Nat → Int32) (f21 : Nat → Nat → Int64) => (x18, r, q19, f21)) else bnd3 (D_X3_becomeLike r q f j i) (fun (r5 : Nat → Int32) (q7 : Nat → Int32) (f9 : Nat → Nat → Int64) => bnd1 (D_X3_countFilled r5 q7 f9 j) (fun (x11 : Int32) => bnd3 (D_X5_tellDone r5 q7 f9 x11) (fun (x13 : Int32) (q14 : Nat → Int32) (f16 : Nat → Nat → Int64) => (x13, r5, q14, f16))))))
theorem D_X5_settleForm_s {r : Nat → Int32} {q : Nat → Int32} {f : Nat → Nat → Int64} {i : Nat} {j : Nat} : D_X5_settleForm r q f i j = bnd1 (D_X3_isWithin r q f i 20) (fun (x2 : Int32) => (if x2 = 0 then bnd3 (D_X5_tellRefused r q f) (fun (x18 : Int32) (q19 : Nat → Int32) (f21 : Nat → Nat → Int64) => (x18, r, q19, f21)) else bnd3 (D_X3_becomeLike r q f j i) (fun (r5 : Nat → Int32) (q7 : Nat → Int32) (f9 : Nat → Nat → Int64) => bnd1 (D_X3_countFilled r5 q7 f9 j) (fun (x11 : Int32) => bnd3 (D_X5_tellDone r5 q7 f9 x11) (fun (x13 : Int32) (q14 : Nat → Int32) (f16 : Nat → Nat → Int64) => (x13, r5, q14, f16)))))) := rfl
set_option maxHeartbeats 4000000 in
set_option maxRecDepth 100000 in
theorem k_X5_settleForm (κ : Kt) (l : Launch) (a : Nat → Nat) (r q : Nat → Int32) (f : Nat → Nat → Int64) (i : Nat) (j : Nat) (hi : i < 15) (hj : j < 15) (o_x : Int32) (o_r : Nat → Int32) (o_q : Nat → Int32) (o_f : Nat → Nat → Int64) (hR : D_X5_settleForm r q f i j = (o_x, o_r, o_q, o_f)) : CM κ l yX5_settleForm cX5_settleForm 3 (some .int) 2 46 0 0 [.ref (a 0), .ref (a (6 + 2 * i)), .ref (a (6 + 2 * j))] (cw κ a r q f) (fun o w' => o = some (.int o_x) ∧ (okr r → okr o_r) ∧ o_q 4 = q 4 ∧ w' = cw κ a o_r o_q o_f) := by
  refine CM_begin (plainFor_of_name (by decide)) (Nat.le_of_ble_eq_true rfl) ?_
  intro p e s m args below meth c A Q hX hnm hA3 hQ hB ls hl
  have hx := hX.1.1
  have hb := hX.1.2.1
  have hl : lv_has ls 3 [(0, .ref (a 0)), (1, .ref (a (6 + 2 * i))), (2, .ref (a (6 + 2 * j)))] := hl
  replace hR := (D_X5_settleForm_s).symm.trans hR
  refine lv_aload_n hx hb dX5_settleForm_0 rfl (lv_at hl 1 rfl) ?_
  refine lv_ldc2 (own := RX5) (v := 20) hx hb hX.1.2.2.2.1 (hX.1.2.2.2.2 _ wm_3_101) dX5_settleForm_1 ?_
  obtain ⟨x2, hd1⟩ := ex1 (D_X3_isWithin r q f i 20)
  replace hR := bnd1_use hd1 hR
  refine call_V (n := 1) (As := [.long 20]) (rest := []) hX hB (k_X3_isWithin κ l a r q f i 20 hi x2 hd1) ⟨rfl, by decide, by decide, by decide +kernel⟩ wm_3_102 wm_2_28 wm_2_29 wm_1_2 wm_2_30 ⟨Nat.le_of_ble_eq_true rfl, Nat.le_of_ble_eq_true rfl⟩ ⟨Nat.le_of_ble_eq_true rfl, Nat.le_of_ble_eq_true rfl⟩ (cwG (i := i) hi) rfl rfl rfl hl.1 rfl (Nat.le_of_ble_eq_true rfl) dX5_settleForm_4 (fun o w' H locs hp hB => ?_)
  obtain ⟨rfl, bx2, rfl⟩ := hp
  refine W.eq (g2 := F0 m 7 ls [.int x2]) rfl ?_
  refine lv_if_ne (tgt := 15) hx hb dX5_settleForm_7 (by decide) (fun c3 => ?_) (fun c3 => ?_)
  · replace hR := ifn c3 hR
    refine lv_aload_n hx hb dX5_settleForm_15 rfl (lv_at hl 2 rfl) ?_
    refine lv_aload_n hx hb dX5_settleForm_16 rfl (lv_at hl 1 rfl) ?_
    obtain ⟨r5, q7, f9, hd4⟩ := ex3 (D_X3_becomeLike r q f j i)
    replace hR := bnd3_use hd4 hR
    refine call_V (n := 1) (As := [.ref (a (6 + 2 * i))]) (rest := []) hX hB (k_X3_becomeLike κ l a r q f j i hj hi r5 q7 f9 hd4) ⟨rfl, by decide, by decide, by decide +kernel⟩ wm_3_74 wm_1_205 wm_1_206 wm_1_2 wm_1_207 ⟨Nat.le_of_ble_eq_true rfl, Nat.le_of_ble_eq_true rfl⟩ ⟨Nat.le_of_ble_eq_true rfl, Nat.le_of_ble_eq_true rfl⟩ (cwG (i := j) hj) rfl rfl rfl hl.1 rfl (Nat.le_of_ble_eq_true rfl) dX5_settleForm_17 (fun o w' H locs hp hB => ?_)
    obtain ⟨rfl, ho6, hq8, rfl⟩ := hp
    refine W.eq (g2 := F0 m 20 ls []) rfl ?_
    refine lv_aload_n hx hb dX5_settleForm_20 rfl (lv_at hl 0 rfl) ?_
    refine lv_aload_n hx hb dX5_settleForm_21 rfl (lv_at hl 2 rfl) ?_
    obtain ⟨x11, hd10⟩ := ex1 (D_X3_countFilled r5 q7 f9 j)
    replace hR := bnd1_use hd10 hR
    refine call_V (n := 0) (As := []) (rest := [.ref (a 0)]) hX hB (k_X3_countFilled κ l a r5 q7 f9 j hj x11 hd10) ⟨rfl, by decide, by decide, by decide +kernel⟩ wm_3_19 wm_3_20 wm_3_21 wm_1_2 wm_3_22 ⟨Nat.le_of_ble_eq_true rfl, Nat.le_of_ble_eq_true rfl⟩ ⟨Nat.le_of_ble_eq_true rfl, Nat.le_of_ble_eq_true rfl⟩ (cwG (i := j) hj) rfl rfl rfl hl.1 rfl (Nat.le_of_ble_eq_true rfl) dX5_settleForm_22 (fun o w' H locs hp hB => ?_)
    obtain ⟨rfl, rfl⟩ := hp
    refine W.eq (g2 := F0 m 25 ls [.int x11, .ref (a 0)]) rfl ?_
    obtain ⟨x13, q14, f16, hd12⟩ := ex3 (D_X5_tellDone r5 q7 f9 x11)
    replace hR := bnd3_use hd12 hR
    refine call_V (n := 1) (As := [.int x11]) (rest := []) hX hB (k_X5_tellDone κ l a r5 q7 f9 x11 x13 q14 f16 hd12) ⟨rfl, by decide, by decide, by decide +kernel⟩ wm_3_24 wm_3_26 wp_19 wm_1_1 wm_3_27 ⟨Nat.le_of_ble_eq_true rfl, Nat.le_of_ble_eq_true rfl⟩ ⟨Nat.le_of_ble_eq_true rfl, Nat.le_of_ble_eq_true rfl⟩ cw0 rfl rfl rfl hl.1 rfl (Nat.le_of_ble_eq_true rfl) dX5_settleForm_25 (fun o w' H locs hp hB => ?_)
    obtain ⟨rfl, hq15, rfl⟩ := hp
    refine W.eq (g2 := F0 m 28 ls [.int x13]) rfl ?_
    rw [← hQ]
    exact end_i hX hB hA3 rfl rfl (by obtain ⟨rfl, rfl, rfl, rfl⟩ := pr4 hR; exact ⟨rfl, (fun h => ho6 ((fun h => h) h)), (hq15.trans (hq8.trans rfl)), rfl⟩) (Nat.le_of_ble_eq_true rfl) (Nat.le_of_ble_eq_true rfl) dX5_settleForm_28
  · replace hR := ifp c3 hR
    refine lv_aload_n hx hb dX5_settleForm_10 rfl (lv_at hl 0 rfl) ?_
    obtain ⟨x18, q19, f21, hd17⟩ := ex3 (D_X5_tellRefused r q f)
    replace hR := bnd3_use hd17 hR
    refine call_V (n := 0) (As := []) (rest := []) hX hB (k_X5_tellRefused κ l a r q f x18 q19 f21 hd17) ⟨rfl, by decide, by decide, by decide +kernel⟩ wm_3_103 wm_3_105 wp_21 wm_1_1 wm_3_106 ⟨Nat.le_of_ble_eq_true rfl, Nat.le_of_ble_eq_true rfl⟩ ⟨Nat.le_of_ble_eq_true rfl, Nat.le_of_ble_eq_true rfl⟩ cw0 rfl rfl rfl hl.1 rfl (Nat.le_of_ble_eq_true rfl) dX5_settleForm_11 (fun o w' H locs hp hB => ?_)
    obtain ⟨rfl, hq20, rfl⟩ := hp
    refine W.eq (g2 := F0 m 14 ls [.int x18]) rfl ?_
    rw [← hQ]
    exact end_i hX hB hA3 rfl rfl (by obtain ⟨rfl, rfl, rfl, rfl⟩ := pr4 hR; exact ⟨rfl, (fun h => h), (hq20.trans rfl), rfl⟩) (Nat.le_of_ble_eq_true rfl) (Nat.le_of_ble_eq_true rfl) dX5_settleForm_14
noncomputable def D_X5_findForm (r : Nat → Int32) (q : Nat → Int32) (f : Nat → Nat → Int64) (j : Nat) (p1 : Int32) : Nat × (Nat → Int32) × (Nat → Int32) × (Nat → Nat → Int64) := (if p1 = 0 then bnd3 (D_X4_walk r q f j) (fun (r3 : Nat → Int32) (q5 : Nat → Int32) (f7 : Nat → Nat → Int64) => (if (q5 0) = 0 then (if p1 = 0 then (6, r3, q5, f7) else (7, r3, q5, f7)) else (15, r3, q5, f7))) else (if p1 = 1 then bnd3 (D_X4_walk r q f j) (fun (r21 : Nat → Int32) (q23 : Nat → Int32) (f25 : Nat → Nat → Int64) => (if (q23 0) = 0 then (if p1 = 0 then (6, r21, q23, f25) else (7, r21, q23, f25)) else (15, r21, q23, f25))) else bnd3 (D_X1_walk r q f j) (fun (r12 : Nat → Int32) (q14 : Nat → Int32) (f16 : Nat → Nat → Int64) => (if (q14 1) = 0 then (if p1 = 2 then (8, r12, q14, f16) else (if p1 = 3 then (9, r12, q14, f16) else (10, r12, q14, f16))) else (15, r12, q14, f16)))))
theorem D_X5_findForm_s {r : Nat → Int32} {q : Nat → Int32} {f : Nat → Nat → Int64} {j : Nat} {p1 : Int32} : D_X5_findForm r q f j p1 = (if p1 = 0 then bnd3 (D_X4_walk r q f j) (fun (r3 : Nat → Int32) (q5 : Nat → Int32) (f7 : Nat → Nat → Int64) => (if (q5 0) = 0 then (if p1 = 0 then (6, r3, q5, f7) else (7, r3, q5, f7)) else (15, r3, q5, f7))) else (if p1 = 1 then bnd3 (D_X4_walk r q f j) (fun (r21 : Nat → Int32) (q23 : Nat → Int32) (f25 : Nat → Nat → Int64) => (if (q23 0) = 0 then (if p1 = 0 then (6, r21, q23, f25) else (7, r21, q23, f25)) else (15, r21, q23, f25))) else bnd3 (D_X1_walk r q f j) (fun (r12 : Nat → Int32) (q14 : Nat → Int32) (f16 : Nat → Nat → Int64) => (if (q14 1) = 0 then (if p1 = 2 then (8, r12, q14, f16) else (if p1 = 3 then (9, r12, q14, f16) else (10, r12, q14, f16))) else (15, r12, q14, f16))))) := rfl
set_option maxHeartbeats 4000000 in
set_option maxRecDepth 100000 in
theorem k_X5_findForm (κ : Kt) (l : Launch) (a : Nat → Nat) (r q : Nat → Int32) (f : Nat → Nat → Int64) (j : Nat) (p1 : Int32) (hj : j < 15) (o_x : Nat) (o_r : Nat → Int32) (o_q : Nat → Int32) (o_f : Nat → Nat → Int64) (hR : D_X5_findForm r q f j p1 = (o_x, o_r, o_q, o_f)) : CM κ l yX5_findForm cX5_findForm 3 (some (.object "Gridmender$Grid")) 5 124 0 0 [.ref (a 0), .ref (a (6 + 2 * j)), .int p1] (cw κ a r q f) (fun o w' => (o_x = 15 ∧ o = some .null ∨ o_x < 15 ∧ o = some (.ref (a (6 + 2 * o_x)))) ∧ (okr r → okr o_r) ∧ o_q 4 = q 4 ∧ w' = cw κ a o_r o_q o_f) := by
  refine CM_begin (plainFor_of_name (by decide)) (Nat.le_of_ble_eq_true rfl) ?_
  intro p e s m args below meth c A Q hX hnm hA3 hQ hB ls hl
  have hx := hX.1.1
  have hb := hX.1.2.1
  have hl : lv_has ls 3 [(0, .ref (a 0)), (1, .ref (a (6 + 2 * j))), (2, .int p1)] := hl
  replace hR := (D_X5_findForm_s).symm.trans hR
  refine lv_iload_n hx hb dX5_findForm_0 rfl (lv_at hl 2 rfl) ?_
  refine lv_if_eq (tgt := 9) hx hb dX5_findForm_1 (by decide) (fun c1 => ?_) (fun c1 => ?_)
  · replace hR := ifp c1 hR
    refine lv_aload_n hx hb dX5_findForm_9 rfl (lv_at hl 0 rfl) ?_
    refine gf hX hB cw0 rfl in5 3 (by decide) wm_1_140 rfl rfl dX5_findForm_10 ?_
    refine lv_aload_n hx hb dX5_findForm_13 rfl (lv_at hl 1 rfl) ?_
    obtain ⟨r3, q5, f7, hd2⟩ := ex3 (D_X4_walk r q f j)
    replace hR := bnd3_use hd2 hR
    refine call_V (n := 1) (As := [.ref (a (6 + 2 * j))]) (rest := []) hX hB (k_X4_walk κ l a r q f j hj r3 q5 f7 hd2) ⟨rfl, by decide, by decide, by decide +kernel⟩ wm_1_200 wm_1_201 wm_1_202 wm_1_3 wm_1_203 ⟨Nat.le_of_ble_eq_true rfl, Nat.le_of_ble_eq_true rfl⟩ ⟨Nat.le_of_ble_eq_true rfl, Nat.le_of_ble_eq_true rfl⟩ cw2 rfl rfl rfl hl.1 rfl (Nat.le_of_ble_eq_true rfl) dX5_findForm_14 (fun o w' H locs hp hB => ?_)
    obtain ⟨rfl, ho4, hq6, rfl⟩ := hp
    refine W.eq (g2 := F0 m 17 ls []) rfl ?_
    refine lv_aload_n hx hb dX5_findForm_17 rfl (lv_at hl 0 rfl) ?_
    refine gf hX hB cw0 rfl in5 3 (by decide) wm_1_140 rfl rfl dX5_findForm_18 ?_
    refine gfN hX hB cw2 rfl in4 2 (by decide) wn_1_79 rfl rfl dX5_findForm_21 ?_
    refine lv_if_eq (tgt := 29) hx hb dX5_findForm_24 (by decide) (fun c8 => ?_) (fun c8 => ?_)
    · replace hR := ifp c8 hR
      refine lv_iload_n hx hb dX5_findForm_29 rfl (lv_at hl 2 rfl) ?_
      refine lv_if_ne (tgt := 43) hx hb dX5_findForm_30 (by decide) (fun c9 => ?_) (fun c9 => ?_)
      · replace hR := ifn c9 hR
        refine lv_aload_n hx hb dX5_findForm_43 rfl (lv_at hl 0 rfl) ?_
        refine gf hX hB cw0 rfl in5 3 (by decide) wm_1_140 rfl rfl dX5_findForm_44 ?_
        refine gfN hX hB cw2 rfl in4 1 (by decide) wn_1_77 rfl rfl dX5_findForm_47 ?_
        rw [← hQ]
        exact end_a hX hB hA3 rfl (Or.inr ⟨_, rfl⟩) (by obtain ⟨rfl, rfl, rfl, rfl⟩ := pr4 hR; exact ⟨Or.inr ⟨by decide, rfl⟩, (fun h => ho4 ((fun h => h) h)), (hq6.trans rfl), rfl⟩) (Nat.le_of_ble_eq_true rfl) (Nat.le_of_ble_eq_true rfl) dX5_findForm_50
      · replace hR := ifp c9 hR
        refine lv_aload_n hx hb dX5_findForm_33 rfl (lv_at hl 0 rfl) ?_
        refine gf hX hB cw0 rfl in5 3 (by decide) wm_1_140 rfl rfl dX5_findForm_34 ?_
        refine gfN hX hB cw2 rfl in4 0 (by decide) wn_1_75 rfl rfl dX5_findForm_37 ?_
        refine lv_goto (tgt := 50) hx hb dX5_findForm_40 (by decide) ?_
        rw [← hQ]
        exact end_a hX hB hA3 rfl (Or.inr ⟨_, rfl⟩) (by obtain ⟨rfl, rfl, rfl, rfl⟩ := pr4 hR; exact ⟨Or.inr ⟨by decide, rfl⟩, (fun h => ho4 ((fun h => h) h)), (hq6.trans rfl), rfl⟩) (Nat.le_of_ble_eq_true rfl) (Nat.le_of_ble_eq_true rfl) dX5_findForm_50
    · replace hR := ifn c8 hR
      refine lv_null hx hb dX5_findForm_27 ?_
      rw [← hQ]
      exact end_a hX hB hA3 rfl (Or.inl rfl) (by obtain ⟨rfl, rfl, rfl, rfl⟩ := pr4 hR; exact ⟨Or.inl ⟨rfl, rfl⟩, (fun h => ho4 ((fun h => h) h)), (hq6.trans rfl), rfl⟩) (Nat.le_of_ble_eq_true rfl) (Nat.le_of_ble_eq_true rfl) dX5_findForm_28
  · replace hR := ifn c1 hR
    refine lv_iload_n hx hb dX5_findForm_4 rfl (lv_at hl 2 rfl) ?_
    refine lv_iconst (v := 1) hx hb dX5_findForm_5 (by decide) ?_
    refine lv_icmp_ne (tgt := 51) hx hb dX5_findForm_6 (by decide) (fun c10 => ?_) (fun c10 => ?_)
    · replace hR := ifn c10 hR
      refine lv_aload_n hx hb dX5_findForm_51 rfl (lv_at hl 0 rfl) ?_
      refine gf hX hB cw0 rfl in5 4 (by decide) wm_1_141 rfl rfl dX5_findForm_52 ?_
      refine lv_aload_n hx hb dX5_findForm_55 rfl (lv_at hl 1 rfl) ?_
      obtain ⟨r12, q14, f16, hd11⟩ := ex3 (D_X1_walk r q f j)
      replace hR := bnd3_use hd11 hR
      refine call_V (n := 1) (As := [.ref (a (6 + 2 * j))]) (rest := []) hX hB (k_X1_walk κ l a r q f j hj r12 q14 f16 hd11) ⟨rfl, by decide, by decide, by decide +kernel⟩ wm_2_72 wm_2_73 wm_2_74 wm_1_4 wm_2_75 ⟨Nat.le_of_ble_eq_true rfl, Nat.le_of_ble_eq_true rfl⟩ ⟨Nat.le_of_ble_eq_true rfl, Nat.le_of_ble_eq_true rfl⟩ cw3 rfl rfl rfl hl.1 rfl (Nat.le_of_ble_eq_true rfl) dX5_findForm_56 (fun o w' H locs hp hB => ?_)
      obtain ⟨rfl, ho13, hq15, rfl⟩ := hp
      refine W.eq (g2 := F0 m 59 ls []) rfl ?_
      refine lv_aload_n hx hb dX5_findForm_59 rfl (lv_at hl 0 rfl) ?_
      refine gf hX hB cw0 rfl in5 4 (by decide) wm_1_141 rfl rfl dX5_findForm_60 ?_
      refine gfN hX hB cw3 rfl in1 3 (by decide) wn_1_105 rfl rfl dX5_findForm_63 ?_
      refine lv_if_eq (tgt := 71) hx hb dX5_findForm_66 (by decide) (fun c17 => ?_) (fun c17 => ?_)
      · replace hR := ifp c17 hR
        refine lv_iload_n hx hb dX5_findForm_71 rfl (lv_at hl 2 rfl) ?_
        refine lv_iconst (v := 2) hx hb dX5_findForm_72 (by decide) ?_
        refine lv_icmp_ne (tgt := 84) hx hb dX5_findForm_73 (by decide) (fun c18 => ?_) (fun c18 => ?_)
        · replace hR := ifn c18 hR
          refine lv_iload_n hx hb dX5_findForm_84 rfl (lv_at hl 2 rfl) ?_
          refine lv_iconst (v := 3) hx hb dX5_findForm_85 (by decide) ?_
          refine lv_icmp_ne (tgt := 99) hx hb dX5_findForm_86 (by decide) (fun c19 => ?_) (fun c19 => ?_)
          · replace hR := ifn c19 hR
            refine lv_aload_n hx hb dX5_findForm_99 rfl (lv_at hl 0 rfl) ?_
            refine gf hX hB cw0 rfl in5 4 (by decide) wm_1_141 rfl rfl dX5_findForm_100 ?_
            refine gfN hX hB cw3 rfl in1 2 (by decide) wn_1_103 rfl rfl dX5_findForm_103 ?_
            rw [← hQ]
            exact end_a hX hB hA3 rfl (Or.inr ⟨_, rfl⟩) (by obtain ⟨rfl, rfl, rfl, rfl⟩ := pr4 hR; exact ⟨Or.inr ⟨by decide, rfl⟩, (fun h => ho13 ((fun h => h) h)), (hq15.trans rfl), rfl⟩) (Nat.le_of_ble_eq_true rfl) (Nat.le_of_ble_eq_true rfl) dX5_findForm_106
          · replace hR := ifp c19 hR
            refine lv_aload_n hx hb dX5_findForm_89 rfl (lv_at hl 0 rfl) ?_
            refine gf hX hB cw0 rfl in5 4 (by decide) wm_1_141 rfl rfl dX5_findForm_90 ?_
            refine gfN hX hB cw3 rfl in1 1 (by decide) wn_1_100 rfl rfl dX5_findForm_93 ?_
            refine lv_goto (tgt := 106) hx hb dX5_findForm_96 (by decide) ?_
            rw [← hQ]
            exact end_a hX hB hA3 rfl (Or.inr ⟨_, rfl⟩) (by obtain ⟨rfl, rfl, rfl, rfl⟩ := pr4 hR; exact ⟨Or.inr ⟨by decide, rfl⟩, (fun h => ho13 ((fun h => h) h)), (hq15.trans rfl), rfl⟩) (Nat.le_of_ble_eq_true rfl) (Nat.le_of_ble_eq_true rfl) dX5_findForm_106
        · replace hR := ifp c18 hR
          refine lv_aload_n hx hb dX5_findForm_76 rfl (lv_at hl 0 rfl) ?_
          refine gf hX hB cw0 rfl in5 4 (by decide) wm_1_141 rfl rfl dX5_findForm_77 ?_
          refine gfN hX hB cw3 rfl in1 0 (by decide) wn_1_97 rfl rfl dX5_findForm_80 ?_
          rw [← hQ]
          exact end_a hX hB hA3 rfl (Or.inr ⟨_, rfl⟩) (by obtain ⟨rfl, rfl, rfl, rfl⟩ := pr4 hR; exact ⟨Or.inr ⟨by decide, rfl⟩, (fun h => ho13 ((fun h => h) h)), (hq15.trans rfl), rfl⟩) (Nat.le_of_ble_eq_true rfl) (Nat.le_of_ble_eq_true rfl) dX5_findForm_83
      · replace hR := ifn c17 hR
        refine lv_null hx hb dX5_findForm_69 ?_
        rw [← hQ]
        exact end_a hX hB hA3 rfl (Or.inl rfl) (by obtain ⟨rfl, rfl, rfl, rfl⟩ := pr4 hR; exact ⟨Or.inl ⟨rfl, rfl⟩, (fun h => ho13 ((fun h => h) h)), (hq15.trans rfl), rfl⟩) (Nat.le_of_ble_eq_true rfl) (Nat.le_of_ble_eq_true rfl) dX5_findForm_70
    · replace hR := ifp c10 hR
      refine lv_aload_n hx hb dX5_findForm_9 rfl (lv_at hl 0 rfl) ?_
      refine gf hX hB cw0 rfl in5 3 (by decide) wm_1_140 rfl rfl dX5_findForm_10 ?_
      refine lv_aload_n hx hb dX5_findForm_13 rfl (lv_at hl 1 rfl) ?_
      obtain ⟨r21, q23, f25, hd20⟩ := ex3 (D_X4_walk r q f j)
      replace hR := bnd3_use hd20 hR
      refine call_V (n := 1) (As := [.ref (a (6 + 2 * j))]) (rest := []) hX hB (k_X4_walk κ l a r q f j hj r21 q23 f25 hd20) ⟨rfl, by decide, by decide, by decide +kernel⟩ wm_1_200 wm_1_201 wm_1_202 wm_1_3 wm_1_203 ⟨Nat.le_of_ble_eq_true rfl, Nat.le_of_ble_eq_true rfl⟩ ⟨Nat.le_of_ble_eq_true rfl, Nat.le_of_ble_eq_true rfl⟩ cw2 rfl rfl rfl hl.1 rfl (Nat.le_of_ble_eq_true rfl) dX5_findForm_14 (fun o w' H locs hp hB => ?_)
      obtain ⟨rfl, ho22, hq24, rfl⟩ := hp
      refine W.eq (g2 := F0 m 17 ls []) rfl ?_
      refine lv_aload_n hx hb dX5_findForm_17 rfl (lv_at hl 0 rfl) ?_
      refine gf hX hB cw0 rfl in5 3 (by decide) wm_1_140 rfl rfl dX5_findForm_18 ?_
      refine gfN hX hB cw2 rfl in4 2 (by decide) wn_1_79 rfl rfl dX5_findForm_21 ?_
      refine lv_if_eq (tgt := 29) hx hb dX5_findForm_24 (by decide) (fun c26 => ?_) (fun c26 => ?_)
      · replace hR := ifp c26 hR
        refine lv_iload_n hx hb dX5_findForm_29 rfl (lv_at hl 2 rfl) ?_
        refine lv_if_ne (tgt := 43) hx hb dX5_findForm_30 (by decide) (fun c27 => ?_) (fun c27 => ?_)
        · replace hR := ifn c27 hR
          refine lv_aload_n hx hb dX5_findForm_43 rfl (lv_at hl 0 rfl) ?_
          refine gf hX hB cw0 rfl in5 3 (by decide) wm_1_140 rfl rfl dX5_findForm_44 ?_
          refine gfN hX hB cw2 rfl in4 1 (by decide) wn_1_77 rfl rfl dX5_findForm_47 ?_
          rw [← hQ]
          exact end_a hX hB hA3 rfl (Or.inr ⟨_, rfl⟩) (by obtain ⟨rfl, rfl, rfl, rfl⟩ := pr4 hR; exact ⟨Or.inr ⟨by decide, rfl⟩, (fun h => ho22 ((fun h => h) h)), (hq24.trans rfl), rfl⟩) (Nat.le_of_ble_eq_true rfl) (Nat.le_of_ble_eq_true rfl) dX5_findForm_50
        · replace hR := ifp c27 hR
          refine lv_aload_n hx hb dX5_findForm_33 rfl (lv_at hl 0 rfl) ?_
          refine gf hX hB cw0 rfl in5 3 (by decide) wm_1_140 rfl rfl dX5_findForm_34 ?_
          refine gfN hX hB cw2 rfl in4 0 (by decide) wn_1_75 rfl rfl dX5_findForm_37 ?_
          refine lv_goto (tgt := 50) hx hb dX5_findForm_40 (by decide) ?_
          rw [← hQ]
          exact end_a hX hB hA3 rfl (Or.inr ⟨_, rfl⟩) (by obtain ⟨rfl, rfl, rfl, rfl⟩ := pr4 hR; exact ⟨Or.inr ⟨by decide, rfl⟩, (fun h => ho22 ((fun h => h) h)), (hq24.trans rfl), rfl⟩) (Nat.le_of_ble_eq_true rfl) (Nat.le_of_ble_eq_true rfl) dX5_findForm_50
      · replace hR := ifn c26 hR
        refine lv_null hx hb dX5_findForm_27 ?_
        rw [← hQ]
        exact end_a hX hB hA3 rfl (Or.inl rfl) (by obtain ⟨rfl, rfl, rfl, rfl⟩ := pr4 hR; exact ⟨Or.inl ⟨rfl, rfl⟩, (fun h => ho22 ((fun h => h) h)), (hq24.trans rfl), rfl⟩) (Nat.le_of_ble_eq_true rfl) (Nat.le_of_ble_eq_true rfl) dX5_findForm_28
noncomputable def D_X5_leavesRests (r : Nat → Int32) (q : Nat → Int32) (f : Nat → Nat → Int64) (i : Nat) : Int32 × (Nat → Int32) × (Nat → Int32) × (Nat → Nat → Int64) := (if (r (2 * i)) = (r (2 * i + 1)) then bnd1 (D_X0_byFirstRow r q f i) (fun (x3 : Int64) => (if (lg_cmp x3 0) = 0 then (0, r, q, f) else bnd3 (D_X4_walk r q f i) (fun (r6 : Nat → Int32) (q8 : Nat → Int32) (f10 : Nat → Nat → Int64) => (if (q8 0) = 0 then (1, r6, q8, f10) else (0, r6, q8, f10))))) else (0, r, q, f))
theorem D_X5_leavesRests_s {r : Nat → Int32} {q : Nat → Int32} {f : Nat → Nat → Int64} {i : Nat} : D_X5_leavesRests r q f i = (if (r (2 * i)) = (r (2 * i + 1)) then bnd1 (D_X0_byFirstRow r q f i) (fun (x3 : Int64) => (if (lg_cmp x3 0) = 0 then (0, r, q, f) else bnd3 (D_X4_walk r q f i) (fun (r6 : Nat → Int32) (q8 : Nat → Int32) (f10 : Nat → Nat → Int64) => (if (q8 0) = 0 then (1, r6, q8, f10) else (0, r6, q8, f10))))) else (0, r, q, f)) := rfl
set_option maxHeartbeats 4000000 in
set_option maxRecDepth 100000 in
theorem k_X5_leavesRests (κ : Kt) (l : Launch) (a : Nat → Nat) (r q : Nat → Int32) (f : Nat → Nat → Int64) (i : Nat) (hi : i < 15) (o_x : Int32) (o_r : Nat → Int32) (o_q : Nat → Int32) (o_f : Nat → Nat → Int64) (hR : D_X5_leavesRests r q f i = (o_x, o_r, o_q, o_f)) : CM κ l yX5_leavesRests cX5_leavesRests 2 (some .boolean) 6 165 0 0 [.ref (a 0), .ref (a (6 + 2 * i))] (cw κ a r q f) (fun o w' => o = some (.int o_x) ∧ (o_x = 0 ∨ o_x = 1) ∧ (okr r → okr o_r) ∧ o_q 4 = q 4 ∧ w' = cw κ a o_r o_q o_f) := by
  refine CM_begin (plainFor_of_name (by decide)) (Nat.le_of_ble_eq_true rfl) ?_
  intro p e s m args below meth c A Q hX hnm hA3 hQ hB ls hl
  have hx := hX.1.1
  have hb := hX.1.2.1
  have hl : lv_has ls 2 [(0, .ref (a 0)), (1, .ref (a (6 + 2 * i)))] := hl
  replace hR := (D_X5_leavesRests_s).symm.trans hR
  refine lv_aload_n hx hb dX5_leavesRests_0 rfl (lv_at hl 1 rfl) ?_
  refine gfN hX hB (cwG (i := i) hi) rfl in3 1 (by decide) wn_1_51 rfl rfl dX5_leavesRests_1 ?_
  refine lv_aload_n hx hb dX5_leavesRests_4 rfl (lv_at hl 1 rfl) ?_
  refine gfN hX hB (cwG (i := i) hi) rfl in3 2 (by decide) wn_1_57 rfl rfl dX5_leavesRests_5 ?_
  refine lv_icmp_ne (tgt := 20) hx hb dX5_leavesRests_8 (by decide) (fun c1 => ?_) (fun c1 => ?_)
  · replace hR := ifn c1 hR
    refine lv_iconst (v := 0) hx hb dX5_leavesRests_20 (by decide) ?_
    rw [← hQ]
    exact end_i hX hB hA3 rfl rfl (by obtain ⟨rfl, rfl, rfl, rfl⟩ := pr4 hR; exact ⟨rfl, Or.inl rfl, (fun h => h), rfl, rfl⟩) (Nat.le_of_ble_eq_true rfl) (Nat.le_of_ble_eq_true rfl) dX5_leavesRests_21
  · replace hR := ifp c1 hR
    refine lv_aload_n hx hb dX5_leavesRests_11 rfl (lv_at hl 1 rfl) ?_
    obtain ⟨x3, hd2⟩ := ex1 (D_X0_byFirstRow r q f i)
    replace hR := bnd1_use hd2 hR
    refine call_S (n := 1) (As := [.ref (a (6 + 2 * i))]) (rest := []) hX hB (k_X0_byFirstRow κ l a r q f i hi x3 hd2) ⟨by decide, by decide, by decide +kernel⟩ wm_1_180 wm_1_181 wm_1_29 wm_1_182 ⟨Nat.le_of_ble_eq_true rfl, Nat.le_of_ble_eq_true rfl⟩ ⟨Nat.le_of_ble_eq_true rfl, Nat.le_of_ble_eq_true rfl⟩ rfl hl.1 rfl (Nat.le_of_ble_eq_true rfl) dX5_leavesRests_12 (fun o w' H locs hp hB => ?_)
    obtain ⟨rfl, rfl⟩ := hp
    refine W.eq (g2 := F0 m 15 ls [.long x3]) rfl ?_
    refine lv_lconst (v := 0) hx hb dX5_leavesRests_15 (by decide) ?_
    refine W.lcmp hx hb dX5_leavesRests_16 ?_
    refine lv_if_ne (tgt := 22) hx hb dX5_leavesRests_17 (by decide) (fun c4 => ?_) (fun c4 => ?_)
    · replace hR := ifn c4 hR
      refine lv_aload_n hx hb dX5_leavesRests_22 rfl (lv_at hl 0 rfl) ?_
      refine gf hX hB cw0 rfl in5 3 (by decide) wm_1_140 rfl rfl dX5_leavesRests_23 ?_
      refine lv_aload_n hx hb dX5_leavesRests_26 rfl (lv_at hl 1 rfl) ?_
      obtain ⟨r6, q8, f10, hd5⟩ := ex3 (D_X4_walk r q f i)
      replace hR := bnd3_use hd5 hR
      refine call_V (n := 1) (As := [.ref (a (6 + 2 * i))]) (rest := []) hX hB (k_X4_walk κ l a r q f i hi r6 q8 f10 hd5) ⟨rfl, by decide, by decide, by decide +kernel⟩ wm_1_200 wm_1_201 wm_1_202 wm_1_3 wm_1_203 ⟨Nat.le_of_ble_eq_true rfl, Nat.le_of_ble_eq_true rfl⟩ ⟨Nat.le_of_ble_eq_true rfl, Nat.le_of_ble_eq_true rfl⟩ cw2 rfl rfl rfl hl.1 rfl (Nat.le_of_ble_eq_true rfl) dX5_leavesRests_27 (fun o w' H locs hp hB => ?_)
      obtain ⟨rfl, ho7, hq9, rfl⟩ := hp
      refine W.eq (g2 := F0 m 30 ls []) rfl ?_
      refine lv_aload_n hx hb dX5_leavesRests_30 rfl (lv_at hl 0 rfl) ?_
      refine gf hX hB cw0 rfl in5 3 (by decide) wm_1_140 rfl rfl dX5_leavesRests_31 ?_
      refine gfN hX hB cw2 rfl in4 2 (by decide) wn_1_79 rfl rfl dX5_leavesRests_34 ?_
      refine lv_if_ne (tgt := 44) hx hb dX5_leavesRests_37 (by decide) (fun c11 => ?_) (fun c11 => ?_)
      · replace hR := ifn c11 hR
        refine lv_iconst (v := 0) hx hb dX5_leavesRests_44 (by decide) ?_
        rw [← hQ]
        exact end_i hX hB hA3 rfl rfl (by obtain ⟨rfl, rfl, rfl, rfl⟩ := pr4 hR; exact ⟨rfl, Or.inl rfl, (fun h => ho7 ((fun h => h) h)), (hq9.trans rfl), rfl⟩) (Nat.le_of_ble_eq_true rfl) (Nat.le_of_ble_eq_true rfl) dX5_leavesRests_45
      · replace hR := ifp c11 hR
        refine lv_iconst (v := 1) hx hb dX5_leavesRests_40 (by decide) ?_
        refine lv_goto (tgt := 45) hx hb dX5_leavesRests_41 (by decide) ?_
        rw [← hQ]
        exact end_i hX hB hA3 rfl rfl (by obtain ⟨rfl, rfl, rfl, rfl⟩ := pr4 hR; exact ⟨rfl, Or.inr rfl, (fun h => ho7 ((fun h => h) h)), (hq9.trans rfl), rfl⟩) (Nat.le_of_ble_eq_true rfl) (Nat.le_of_ble_eq_true rfl) dX5_leavesRests_45
    · replace hR := ifp c4 hR
      refine lv_iconst (v := 0) hx hb dX5_leavesRests_20 (by decide) ?_
      rw [← hQ]
      exact end_i hX hB hA3 rfl rfl (by obtain ⟨rfl, rfl, rfl, rfl⟩ := pr4 hR; exact ⟨rfl, Or.inl rfl, (fun h => h), rfl, rfl⟩) (Nat.le_of_ble_eq_true rfl) (Nat.le_of_ble_eq_true rfl) dX5_leavesRests_21
noncomputable def D_X5_rowNumber (r : Nat → Int32) (q : Nat → Int32) (f : Nat → Nat → Int64) (p0 : Int32) : Int64 := (if p0 < 0 then 0 else (if 4 ≤ p0 then 0 else nm (((f 15) (p0).toNatClampNeg) : Int64) (fun (g3 : Int64) => g3)))
theorem D_X5_rowNumber_s {r : Nat → Int32} {q : Nat → Int32} {f : Nat → Nat → Int64} {p0 : Int32} : D_X5_rowNumber r q f p0 = (if p0 < 0 then 0 else (if 4 ≤ p0 then 0 else nm (((f 15) (p0).toNatClampNeg) : Int64) (fun (g3 : Int64) => g3))) := rfl
set_option maxHeartbeats 4000000 in
set_option maxRecDepth 100000 in
theorem k_X5_rowNumber (κ : Kt) (l : Launch) (a : Nat → Nat) (r q : Nat → Int32) (f : Nat → Nat → Int64) (p0 : Int32)  (o_x : Int64) (hR : D_X5_rowNumber r q f p0 = o_x) : CM κ l yX5_rowNumber cX5_rowNumber 2 (some .long) 0 0 0 0 [.ref (a 0), .int p0] (cw κ a r q f) (fun o w' => o = some (.long o_x) ∧ w' = cw κ a r q f) := by
  refine CM_begin (plainFor_of_name (by decide)) (Nat.le_of_ble_eq_true rfl) ?_
  intro p e s m args below meth c A Q hX hnm hA3 hQ hB ls hl
  have hx := hX.1.1
  have hb := hX.1.2.1
  have hl : lv_has ls 2 [(0, .ref (a 0)), (1, .int p0)] := hl
  replace hR := (D_X5_rowNumber_s).symm.trans hR
  refine lv_iload_n hx hb dX5_rowNumber_0 rfl (lv_at hl 1 rfl) ?_
  refine lv_if_lt (tgt := 22) hx hb dX5_rowNumber_1 (by decide) (fun c1 => ?_) (fun c1 => ?_)
  · replace hR := ifp c1 hR
    refine lv_lconst (v := 0) hx hb dX5_rowNumber_22 (by decide) ?_
    rw [← hQ]
    exact end_l hX hB hA3 rfl (by obtain rfl := hR; exact ⟨rfl, rfl⟩) (Nat.le_of_ble_eq_true rfl) (Nat.le_of_ble_eq_true rfl) dX5_rowNumber_23
  · replace hR := ifn c1 hR
    refine lv_iload_n hx hb dX5_rowNumber_4 rfl (lv_at hl 1 rfl) ?_
    refine lv_aload_n hx hb dX5_rowNumber_5 rfl (lv_at hl 0 rfl) ?_
    refine gf hX hB cw0 rfl in5 6 (by decide) wm_1_143 rfl rfl dX5_rowNumber_6 ?_
    refine alenL (v := 4) hX hB cw5 rfl dX5_rowNumber_9 ?_
    refine lv_icmp_ge (tgt := 22) hx hb dX5_rowNumber_10 (by decide) (fun c2 => ?_) (fun c2 => ?_)
    · replace hR := ifp c2 hR
      refine lv_lconst (v := 0) hx hb dX5_rowNumber_22 (by decide) ?_
      rw [← hQ]
      exact end_l hX hB hA3 rfl (by obtain rfl := hR; exact ⟨rfl, rfl⟩) (Nat.le_of_ble_eq_true rfl) (Nat.le_of_ble_eq_true rfl) dX5_rowNumber_23
    · replace hR := ifn c2 hR
      refine lv_aload_n hx hb dX5_rowNumber_13 rfl (lv_at hl 0 rfl) ?_
      refine gf hX hB cw0 rfl in5 6 (by decide) wm_1_143 rfl rfl dX5_rowNumber_14 ?_
      refine lv_iload_n hx hb dX5_rowNumber_17 rfl (lv_at hl 1 rfl) ?_
      refine lald hX hB cw5 (in_of' (N := 4) rfl (by first | assumption | exact i32_not_le.mpr (by assumption)) (by first | assumption | exact i32_not_le.mpr (by assumption))) dX5_rowNumber_18 ?_
      refine lv_topl (fun g3 eg3 => ?_)
      replace hR := nm_use eg3 hR
      refine lv_goto (tgt := 23) hx hb dX5_rowNumber_19 (by decide) ?_
      rw [← hQ]
      exact end_l hX hB hA3 rfl (by obtain rfl := hR; exact ⟨rfl, rfl⟩) (Nat.le_of_ble_eq_true rfl) (Nat.le_of_ble_eq_true rfl) dX5_rowNumber_23
noncomputable def D_X5_setRowNumber (r : Nat → Int32) (q : Nat → Int32) (f : Nat → Nat → Int64) (p0 : Int32) (p1 : Int64) : (Nat → Nat → Int64) := (if p0 < 0 then f else (if 4 ≤ p0 then f else va_up f 15 (vp_updL (f 15) (p0).toNatClampNeg p1)))
theorem D_X5_setRowNumber_s {r : Nat → Int32} {q : Nat → Int32} {f : Nat → Nat → Int64} {p0 : Int32} {p1 : Int64} : D_X5_setRowNumber r q f p0 p1 = (if p0 < 0 then f else (if 4 ≤ p0 then f else va_up f 15 (vp_updL (f 15) (p0).toNatClampNeg p1))) := rfl
set_option maxHeartbeats 4000000 in
set_option maxRecDepth 100000 in
theorem k_X5_setRowNumber (κ : Kt) (l : Launch) (a : Nat → Nat) (r q : Nat → Int32) (f : Nat → Nat → Int64) (p0 : Int32) (p1 : Int64)  (o_f : Nat → Nat → Int64) (hR : D_X5_setRowNumber r q f p0 p1 = o_f) : CM κ l yX5_setRowNumber cX5_setRowNumber 4 (none) 0 0 0 0 [.ref (a 0), .int p0, .long p1] (cw κ a r q f) (fun o w' => o = none ∧ w' = cw κ a r q o_f) := by
  refine CM_begin (plainFor_of_name (by decide)) (Nat.le_of_ble_eq_true rfl) ?_
  intro p e s m args below meth c A Q hX hnm hA3 hQ hB ls hl
  have hx := hX.1.1
  have hb := hX.1.2.1
  have hl : lv_has ls 4 [(0, .ref (a 0)), (1, .int p0), (2, .long p1)] := hl
  replace hR := (D_X5_setRowNumber_s).symm.trans hR
  refine lv_iload_n hx hb dX5_setRowNumber_0 rfl (lv_at hl 1 rfl) ?_
  refine lv_if_lt (tgt := 20) hx hb dX5_setRowNumber_1 (by decide) (fun c1 => ?_) (fun c1 => ?_)
  · replace hR := ifp c1 hR
    rw [← hQ]
    exact end_v hX hB hA3 rfl (by obtain rfl := hR; exact ⟨rfl, rfl⟩) (Nat.le_of_ble_eq_true rfl) (Nat.le_of_ble_eq_true rfl) dX5_setRowNumber_20
  · replace hR := ifn c1 hR
    refine lv_iload_n hx hb dX5_setRowNumber_4 rfl (lv_at hl 1 rfl) ?_
    refine lv_aload_n hx hb dX5_setRowNumber_5 rfl (lv_at hl 0 rfl) ?_
    refine gf hX hB cw0 rfl in5 6 (by decide) wm_1_143 rfl rfl dX5_setRowNumber_6 ?_
    refine alenL (v := 4) hX hB cw5 rfl dX5_setRowNumber_9 ?_
    refine lv_icmp_ge (tgt := 20) hx hb dX5_setRowNumber_10 (by decide) (fun c2 => ?_) (fun c2 => ?_)
    · replace hR := ifp c2 hR
      rw [← hQ]
      exact end_v hX hB hA3 rfl (by obtain rfl := hR; exact ⟨rfl, rfl⟩) (Nat.le_of_ble_eq_true rfl) (Nat.le_of_ble_eq_true rfl) dX5_setRowNumber_20
    · replace hR := ifn c2 hR
      refine lv_aload_n hx hb dX5_setRowNumber_13 rfl (lv_at hl 0 rfl) ?_
      refine gf hX hB cw0 rfl in5 6 (by decide) wm_1_143 rfl rfl dX5_setRowNumber_14 ?_
      refine lv_iload_n hx hb dX5_setRowNumber_17 rfl (lv_at hl 1 rfl) ?_
      refine lv_lload_n hx hb dX5_setRowNumber_18 rfl (lv_at hl 2 rfl) ?_
      refine last hX hB cw5 (in_of' (N := 4) rfl (by first | assumption | exact i32_not_le.mpr (by assumption)) (by first | assumption | exact i32_not_le.mpr (by assumption))) (cwS5 _) dX5_setRowNumber_19 (fun H locs hB => ?_)
      rw [← hQ]
      exact end_v hX hB hA3 rfl (by obtain rfl := hR; exact ⟨rfl, rfl⟩) (Nat.le_of_ble_eq_true rfl) (Nat.le_of_ble_eq_true rfl) dX5_setRowNumber_20
