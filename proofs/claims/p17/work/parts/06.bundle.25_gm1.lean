section
-- 25.gm1
noncomputable def D_X5_needTable (r : Nat → Int32) (q : Nat → Int32) (f : Nat → Nat → Int64) (p0 : Int32) : String × Nat := (if p0 < 0 then ("java/lang/IndexOutOfBoundsException", 0) else (if p0 < 4 then ("", (p0).toNatClampNeg) else ("java/lang/IndexOutOfBoundsException", 0)))
theorem D_X5_needTable_s {r : Nat → Int32} {q : Nat → Int32} {f : Nat → Nat → Int64} {p0 : Int32} : D_X5_needTable r q f p0 = (if p0 < 0 then ("java/lang/IndexOutOfBoundsException", 0) else (if p0 < 4 then ("", (p0).toNatClampNeg) else ("java/lang/IndexOutOfBoundsException", 0))) := rfl
set_option maxHeartbeats 4000000 in
set_option maxRecDepth 100000 in
theorem k_X5_needTable (κ : Kt) (l : Launch) (hst : l.stackTraces = false) (a : Nat → Nat) (r q : Nat → Int32) (f : Nat → Nat → Int64) (p0 : Int32)  (o_E : String) (o_x : Nat) (hR : D_X5_needTable r q f p0 = (o_E, o_x)) : CX κ l yX5_needTable cX5_needTable 2 (some (.object "Gridmender$Grid")) 6 90 1 6 [.ref (a 0), .int p0] (cw κ a r q f) (fun o w' => o_E = "" ∧ o_x < 4 ∧ o = some (.ref (a (6 + 2 * o_x))) ∧ w' = cw κ a r q f) (fun E w' => o_E = E ∧ o_E ∈ (["java/lang/IndexOutOfBoundsException"] : List String) ∧ w' = cw κ a r q f) := by
  refine CX_begin (by decide) (Nat.le_of_ble_eq_true rfl) ?_
  intro p e s m args below meth c A Q hX hne hA3 hQ hB ls hl
  have hx := hX.1.1
  have hb := hX.1.2.1
  have hl : lv_has ls 2 [(0, .ref (a 0)), (1, .int p0)] := hl
  replace hR := (D_X5_needTable_s).symm.trans hR
  refine lv_iload_n hx hb dX5_needTable_0 rfl (lv_at hl 1 rfl) ?_
  refine lv_if_lt (tgt := 9) hx hb dX5_needTable_1 (by decide) (fun c1 => ?_) (fun c1 => ?_)
  · replace hR := ifp c1 hR
    rw [← hQ]
    exact throw_TW (cls := "java/lang/IndexOutOfBoundsException") (text := "no such table") (nL := 2) hst hX hne hB hA3 rfl (by decide) wm_2_169 wm_1_12 (by decide) tw_275a tw_275b tw_275c hl.1 dX5_needTable_9 dX5_needTable_12 dX5_needTable_13 dX5_needTable_16 dX5_needTable_19 (Nat.le_of_ble_eq_true rfl) (Nat.le_of_ble_eq_true rfl) (Nat.le_of_ble_eq_true rfl) (Nat.le_of_ble_eq_true rfl) (by obtain ⟨rfl, rfl⟩ := pr2 hR; exact ⟨rfl, (by decide), rfl⟩) (Nat.le_of_ble_eq_true rfl) (Nat.le_of_ble_eq_true rfl)
  · replace hR := ifn c1 hR
    refine lv_iload_n hx hb dX5_needTable_4 rfl (lv_at hl 1 rfl) ?_
    refine lv_iconst (v := 4) hx hb dX5_needTable_5 (by decide) ?_
    refine lv_icmp_lt (tgt := 20) hx hb dX5_needTable_6 (by decide) (fun c2 => ?_) (fun c2 => ?_)
    · replace hR := ifp c2 hR
      refine lv_aload_n hx hb dX5_needTable_20 rfl (lv_at hl 0 rfl) ?_
      refine gf hX hB cw0 rfl in5 0 (by decide) wm_1_137 rfl rfl dX5_needTable_21 ?_
      refine lv_iload_n hx hb dX5_needTable_24 rfl (lv_at hl 1 rfl) ?_
      refine aaldG hX hB cw1 (in_of' (N := 4) rfl (by first | assumption | exact i32_not_le.mpr (by assumption)) (by first | assumption | exact i32_not_le.mpr (by assumption))) rfl dX5_needTable_25 ?_
      rw [← hQ]
      exact vx_ret ( end_a hX hB hA3 rfl (Or.inr ⟨_, rfl⟩) (by obtain ⟨rfl, rfl⟩ := pr2 hR; exact ⟨rfl, clamp_lt (in_of' (N := 4) rfl (by first | assumption | exact i32_not_le.mpr (by assumption)) (by first | assumption | exact i32_not_le.mpr (by assumption))), rfl, rfl⟩) (Nat.le_of_ble_eq_true rfl) (Nat.le_of_ble_eq_true rfl) dX5_needTable_26)
    · replace hR := ifn c2 hR
      rw [← hQ]
      exact throw_TW (cls := "java/lang/IndexOutOfBoundsException") (text := "no such table") (nL := 2) hst hX hne hB hA3 rfl (by decide) wm_2_169 wm_1_12 (by decide) tw_275a tw_275b tw_275c hl.1 dX5_needTable_9 dX5_needTable_12 dX5_needTable_13 dX5_needTable_16 dX5_needTable_19 (Nat.le_of_ble_eq_true rfl) (Nat.le_of_ble_eq_true rfl) (Nat.le_of_ble_eq_true rfl) (Nat.le_of_ble_eq_true rfl) (by obtain ⟨rfl, rfl⟩ := pr2 hR; exact ⟨rfl, (by decide), rfl⟩) (Nat.le_of_ble_eq_true rfl) (Nat.le_of_ble_eq_true rfl)
noncomputable def D_X5_needIndex (r : Nat → Int32) (q : Nat → Int32) (f : Nat → Nat → Int64) (p0 : Int32) : String := (if p0 = 0 then "java/lang/IndexOutOfBoundsException" else "")
theorem D_X5_needIndex_s {r : Nat → Int32} {q : Nat → Int32} {f : Nat → Nat → Int64} {p0 : Int32} : D_X5_needIndex r q f p0 = (if p0 = 0 then "java/lang/IndexOutOfBoundsException" else "") := rfl
set_option maxHeartbeats 4000000 in
set_option maxRecDepth 100000 in
theorem k_X5_needIndex (κ : Kt) (l : Launch) (hst : l.stackTraces = false) (a : Nat → Nat) (r q : Nat → Int32) (f : Nat → Nat → Int64) (p0 : Int32)  (o_E : String) (hR : D_X5_needIndex r q f p0 = o_E) : CX κ l yX5_needIndex cX5_needIndex 1 (none) 6 90 1 6 [.int p0] (cw κ a r q f) (fun o w' => o_E = "" ∧ o = none ∧ w' = cw κ a r q f) (fun E w' => o_E = E ∧ o_E ∈ (["java/lang/IndexOutOfBoundsException"] : List String) ∧ w' = cw κ a r q f) := by
  refine CX_begin (by decide) (Nat.le_of_ble_eq_true rfl) ?_
  intro p e s m args below meth c A Q hX hne hA3 hQ hB ls hl
  have hx := hX.1.1
  have hb := hX.1.2.1
  have hl : lv_has ls 1 [(0, .int p0)] := hl
  replace hR := (D_X5_needIndex_s).symm.trans hR
  refine lv_iload_n hx hb dX5_needIndex_0 rfl (lv_at hl 0 rfl) ?_
  refine lv_if_ne (tgt := 15) hx hb dX5_needIndex_1 (by decide) (fun c1 => ?_) (fun c1 => ?_)
  · replace hR := ifn c1 hR
    rw [← hQ]
    exact vx_ret ( end_v hX hB hA3 rfl (by obtain rfl := hR; exact ⟨rfl, rfl, rfl⟩) (Nat.le_of_ble_eq_true rfl) (Nat.le_of_ble_eq_true rfl) dX5_needIndex_15)
  · replace hR := ifp c1 hR
    rw [← hQ]
    exact throw_TW (cls := "java/lang/IndexOutOfBoundsException") (text := "no such row or column") (nL := 1) hst hX hne hB hA3 rfl (by decide) wm_2_169 wm_1_12 (by decide) tw_275a tw_275b tw_275c hl.1 dX5_needIndex_4 dX5_needIndex_7 dX5_needIndex_8 dX5_needIndex_11 dX5_needIndex_14 (Nat.le_of_ble_eq_true rfl) (Nat.le_of_ble_eq_true rfl) (Nat.le_of_ble_eq_true rfl) (Nat.le_of_ble_eq_true rfl) (by obtain rfl := hR; exact ⟨rfl, (by decide), rfl⟩) (Nat.le_of_ble_eq_true rfl) (Nat.le_of_ble_eq_true rfl)
noncomputable def D_X5_needArgument (r : Nat → Int32) (q : Nat → Int32) (f : Nat → Nat → Int64) (p0 : Int32) : String := (if p0 = 0 then "java/lang/IllegalArgumentException" else "")
theorem D_X5_needArgument_s {r : Nat → Int32} {q : Nat → Int32} {f : Nat → Nat → Int64} {p0 : Int32} : D_X5_needArgument r q f p0 = (if p0 = 0 then "java/lang/IllegalArgumentException" else "") := rfl
set_option maxHeartbeats 4000000 in
set_option maxRecDepth 100000 in
theorem k_X5_needArgument (κ : Kt) (l : Launch) (hst : l.stackTraces = false) (a : Nat → Nat) (r q : Nat → Int32) (f : Nat → Nat → Int64) (p0 : Int32)  (o_E : String) (hR : D_X5_needArgument r q f p0 = o_E) : CX κ l yX5_needArgument cX5_needArgument 1 (none) 6 90 1 6 [.int p0] (cw κ a r q f) (fun o w' => o_E = "" ∧ o = none ∧ w' = cw κ a r q f) (fun E w' => o_E = E ∧ o_E ∈ (["java/lang/IllegalArgumentException"] : List String) ∧ w' = cw κ a r q f) := by
  refine CX_begin (by decide) (Nat.le_of_ble_eq_true rfl) ?_
  intro p e s m args below meth c A Q hX hne hA3 hQ hB ls hl
  have hx := hX.1.1
  have hb := hX.1.2.1
  have hl : lv_has ls 1 [(0, .int p0)] := hl
  replace hR := (D_X5_needArgument_s).symm.trans hR
  refine lv_iload_n hx hb dX5_needArgument_0 rfl (lv_at hl 0 rfl) ?_
  refine lv_if_ne (tgt := 15) hx hb dX5_needArgument_1 (by decide) (fun c1 => ?_) (fun c1 => ?_)
  · replace hR := ifn c1 hR
    rw [← hQ]
    exact vx_ret ( end_v hX hB hA3 rfl (by obtain rfl := hR; exact ⟨rfl, rfl, rfl⟩) (Nat.le_of_ble_eq_true rfl) (Nat.le_of_ble_eq_true rfl) dX5_needArgument_15)
  · replace hR := ifp c1 hR
    rw [← hQ]
    exact throw_TW (cls := "java/lang/IllegalArgumentException") (text := "not allowed here") (nL := 1) hst hX hne hB hA3 rfl (by decide) wm_3_3 wm_1_13 (by decide) tw_282a tw_282b tw_282c hl.1 dX5_needArgument_4 dX5_needArgument_7 dX5_needArgument_8 dX5_needArgument_11 dX5_needArgument_14 (Nat.le_of_ble_eq_true rfl) (Nat.le_of_ble_eq_true rfl) (Nat.le_of_ble_eq_true rfl) (Nat.le_of_ble_eq_true rfl) (by obtain rfl := hR; exact ⟨rfl, (by decide), rfl⟩) (Nat.le_of_ble_eq_true rfl) (Nat.le_of_ble_eq_true rfl)
noncomputable def D_X5_needState (r : Nat → Int32) (q : Nat → Int32) (f : Nat → Nat → Int64) (p0 : Int32) : String := (if p0 = 0 then "java/lang/IllegalStateException" else "")
theorem D_X5_needState_s {r : Nat → Int32} {q : Nat → Int32} {f : Nat → Nat → Int64} {p0 : Int32} : D_X5_needState r q f p0 = (if p0 = 0 then "java/lang/IllegalStateException" else "") := rfl
set_option maxHeartbeats 4000000 in
set_option maxRecDepth 100000 in
theorem k_X5_needState (κ : Kt) (l : Launch) (hst : l.stackTraces = false) (a : Nat → Nat) (r q : Nat → Int32) (f : Nat → Nat → Int64) (p0 : Int32)  (o_E : String) (hR : D_X5_needState r q f p0 = o_E) : CX κ l yX5_needState cX5_needState 1 (none) 6 90 1 6 [.int p0] (cw κ a r q f) (fun o w' => o_E = "" ∧ o = none ∧ w' = cw κ a r q f) (fun E w' => o_E = E ∧ o_E ∈ (["java/lang/IllegalStateException"] : List String) ∧ w' = cw κ a r q f) := by
  refine CX_begin (by decide) (Nat.le_of_ble_eq_true rfl) ?_
  intro p e s m args below meth c A Q hX hne hA3 hQ hB ls hl
  have hx := hX.1.1
  have hb := hX.1.2.1
  have hl : lv_has ls 1 [(0, .int p0)] := hl
  replace hR := (D_X5_needState_s).symm.trans hR
  refine lv_iload_n hx hb dX5_needState_0 rfl (lv_at hl 0 rfl) ?_
  refine lv_if_ne (tgt := 15) hx hb dX5_needState_1 (by decide) (fun c1 => ?_) (fun c1 => ?_)
  · replace hR := ifn c1 hR
    rw [← hQ]
    exact vx_ret ( end_v hX hB hA3 rfl (by obtain rfl := hR; exact ⟨rfl, rfl, rfl⟩) (Nat.le_of_ble_eq_true rfl) (Nat.le_of_ble_eq_true rfl) dX5_needState_15)
  · replace hR := ifp c1 hR
    rw [← hQ]
    exact throw_TW (cls := "java/lang/IllegalStateException") (text := "the table does not allow it") (nL := 1) hst hX hne hB hA3 rfl (by decide) wm_5_29 wm_1_28 (by decide) tw_227a tw_227b tw_227c hl.1 dX5_needState_4 dX5_needState_7 dX5_needState_8 dX5_needState_11 dX5_needState_14 (Nat.le_of_ble_eq_true rfl) (Nat.le_of_ble_eq_true rfl) (Nat.le_of_ble_eq_true rfl) (Nat.le_of_ble_eq_true rfl) (by obtain rfl := hR; exact ⟨rfl, (by decide), rfl⟩) (Nat.le_of_ble_eq_true rfl) (Nat.le_of_ble_eq_true rfl)
noncomputable def D_X5_isCount (p0 : Int32) : Int32 := (if p0 < 1 then 0 else (if 4 < p0 then 0 else 1))
theorem D_X5_isCount_s {p0 : Int32} : D_X5_isCount p0 = (if p0 < 1 then 0 else (if 4 < p0 then 0 else 1)) := rfl
set_option maxHeartbeats 4000000 in
set_option maxRecDepth 100000 in
theorem k_X5_isCount (κ : Kt) (l : Launch) (w : va_W) (p0 : Int32)  (o_x : Int32) (hR : D_X5_isCount p0 = o_x) : CM κ l yX5_isCount cX5_isCount 1 (some .boolean) 0 0 0 0 [.int p0] (w) (fun o w' => o = some (.int o_x) ∧ (o_x = 0 ∨ o_x = 1) ∧ w' = w) := by
  refine CM_begin (plainFor_of_name pn_RX5) (Nat.le_of_ble_eq_true rfl) ?_
  intro p e s m args below meth c A Q hX hnm hA3 hQ hB ls hl
  have hx := hX.1.1
  have hb := hX.1.2.1
  have hl : lv_has ls 1 [(0, .int p0)] := hl
  replace hR := (D_X5_isCount_s).symm.trans hR
  refine lv_iload_n hx hb dX5_isCount_0 rfl (lv_at hl 0 rfl) ?_
  refine lv_iconst (v := 1) hx hb dX5_isCount_1 (by decide) ?_
  refine lv_icmp_lt (tgt := 14) hx hb dX5_isCount_2 (by decide) (fun c1 => ?_) (fun c1 => ?_)
  · replace hR := ifp c1 hR
    refine lv_iconst (v := 0) hx hb dX5_isCount_14 (by decide) ?_
    rw [← hQ]
    exact end_i hX hB hA3 rfl rfl (by obtain rfl := hR; exact ⟨rfl, Or.inl rfl, rfl⟩) (Nat.le_of_ble_eq_true rfl) (Nat.le_of_ble_eq_true rfl) dX5_isCount_15
  · replace hR := ifn c1 hR
    refine lv_iload_n hx hb dX5_isCount_5 rfl (lv_at hl 0 rfl) ?_
    refine lv_iconst (v := 4) hx hb dX5_isCount_6 (by decide) ?_
    refine lv_icmp_gt (tgt := 14) hx hb dX5_isCount_7 (by decide) (fun c2 => ?_) (fun c2 => ?_)
    · replace hR := ifp c2 hR
      refine lv_iconst (v := 0) hx hb dX5_isCount_14 (by decide) ?_
      rw [← hQ]
      exact end_i hX hB hA3 rfl rfl (by obtain rfl := hR; exact ⟨rfl, Or.inl rfl, rfl⟩) (Nat.le_of_ble_eq_true rfl) (Nat.le_of_ble_eq_true rfl) dX5_isCount_15
    · replace hR := ifn c2 hR
      refine lv_iconst (v := 1) hx hb dX5_isCount_10 (by decide) ?_
      refine lv_goto (tgt := 15) hx hb dX5_isCount_11 (by decide) ?_
      rw [← hQ]
      exact end_i hX hB hA3 rfl rfl (by obtain rfl := hR; exact ⟨rfl, Or.inr rfl, rfl⟩) (Nat.le_of_ble_eq_true rfl) (Nat.le_of_ble_eq_true rfl) dX5_isCount_15
noncomputable def D_X5_isForm (p0 : Int32) : Int32 := (if p0 < 0 then 0 else (if 4 < p0 then 0 else 1))
theorem D_X5_isForm_s {p0 : Int32} : D_X5_isForm p0 = (if p0 < 0 then 0 else (if 4 < p0 then 0 else 1)) := rfl
set_option maxHeartbeats 4000000 in
set_option maxRecDepth 100000 in
theorem k_X5_isForm (κ : Kt) (l : Launch) (w : va_W) (p0 : Int32)  (o_x : Int32) (hR : D_X5_isForm p0 = o_x) : CM κ l yX5_isForm cX5_isForm 1 (some .boolean) 0 0 0 0 [.int p0] (w) (fun o w' => o = some (.int o_x) ∧ (o_x = 0 ∨ o_x = 1) ∧ w' = w) := by
  refine CM_begin (plainFor_of_name pn_RX5) (Nat.le_of_ble_eq_true rfl) ?_
  intro p e s m args below meth c A Q hX hnm hA3 hQ hB ls hl
  have hx := hX.1.1
  have hb := hX.1.2.1
  have hl : lv_has ls 1 [(0, .int p0)] := hl
  replace hR := (D_X5_isForm_s).symm.trans hR
  refine lv_iload_n hx hb dX5_isForm_0 rfl (lv_at hl 0 rfl) ?_
  refine lv_if_lt (tgt := 13) hx hb dX5_isForm_1 (by decide) (fun c1 => ?_) (fun c1 => ?_)
  · replace hR := ifp c1 hR
    refine lv_iconst (v := 0) hx hb dX5_isForm_13 (by decide) ?_
    rw [← hQ]
    exact end_i hX hB hA3 rfl rfl (by obtain rfl := hR; exact ⟨rfl, Or.inl rfl, rfl⟩) (Nat.le_of_ble_eq_true rfl) (Nat.le_of_ble_eq_true rfl) dX5_isForm_14
  · replace hR := ifn c1 hR
    refine lv_iload_n hx hb dX5_isForm_4 rfl (lv_at hl 0 rfl) ?_
    refine lv_iconst (v := 4) hx hb dX5_isForm_5 (by decide) ?_
    refine lv_icmp_gt (tgt := 13) hx hb dX5_isForm_6 (by decide) (fun c2 => ?_) (fun c2 => ?_)
    · replace hR := ifp c2 hR
      refine lv_iconst (v := 0) hx hb dX5_isForm_13 (by decide) ?_
      rw [← hQ]
      exact end_i hX hB hA3 rfl rfl (by obtain rfl := hR; exact ⟨rfl, Or.inl rfl, rfl⟩) (Nat.le_of_ble_eq_true rfl) (Nat.le_of_ble_eq_true rfl) dX5_isForm_14
    · replace hR := ifn c2 hR
      refine lv_iconst (v := 1) hx hb dX5_isForm_9 (by decide) ?_
      refine lv_goto (tgt := 14) hx hb dX5_isForm_10 (by decide) ?_
      rw [← hQ]
      exact end_i hX hB hA3 rfl rfl (by obtain rfl := hR; exact ⟨rfl, Or.inr rfl, rfl⟩) (Nat.le_of_ble_eq_true rfl) (Nat.le_of_ble_eq_true rfl) dX5_isForm_14
noncomputable def D_X5_tellDone (r : Nat → Int32) (q : Nat → Int32) (f : Nat → Nat → Int64) (p0 : Int32) : Int32 × (Nat → Int32) × (Nat → Nat → Int64) := (p0, va_up q 2 ((q 2) + 1), f)
theorem D_X5_tellDone_s {r : Nat → Int32} {q : Nat → Int32} {f : Nat → Nat → Int64} {p0 : Int32} : D_X5_tellDone r q f p0 = (p0, va_up q 2 ((q 2) + 1), f) := rfl
set_option maxHeartbeats 4000000 in
set_option maxRecDepth 100000 in
theorem k_X5_tellDone (κ : Kt) (l : Launch) (a : Nat → Nat) (r q : Nat → Int32) (f : Nat → Nat → Int64) (p0 : Int32)  (o_x : Int32) (o_q : Nat → Int32) (o_f : Nat → Nat → Int64) (hR : D_X5_tellDone r q f p0 = (o_x, o_q, o_f)) : CM κ l yX5_tellDone cX5_tellDone 2 (some .int) 0 0 0 0 [.ref (a 0), .int p0] (cw κ a r q f) (fun o w' => o = some (.int o_x) ∧ o_q 4 = q 4 ∧ w' = cw κ a r o_q o_f) := by
  refine CM_begin (plainFor_of_name pn_RX5) (Nat.le_of_ble_eq_true rfl) ?_
  intro p e s m args below meth c A Q hX hnm hA3 hQ hB ls hl
  have hx := hX.1.1
  have hb := hX.1.2.1
  have hl : lv_has ls 2 [(0, .ref (a 0)), (1, .int p0)] := hl
  replace hR := (D_X5_tellDone_s).symm.trans hR
  refine lv_aload_n hx hb dX5_tellDone_0 rfl (lv_at hl 0 rfl) ?_
  refine lv_dup hx hb dX5_tellDone_1 rfl ?_
  refine gf hX hB cw0 rfl in5 7 (by decide) wm_1_144 rfl rfl dX5_tellDone_2 ?_
  refine lv_iconst (v := 1) hx hb dX5_tellDone_5 (by decide) ?_
  refine lv_iadd hx hb dX5_tellDone_6 ?_
  refine pf (ty := .int) hX hB cw0 rfl in5 tyX5_ok nmX5 7 (by decide) wm_1_144 rfl rfl rfl rfl rfl (Nat.le_of_ble_eq_true rfl) (cwSQ2 _) dX5_tellDone_7 (fun H locs hB => ?_)
  refine lv_iload_n hx hb dX5_tellDone_10 rfl (lv_at hl 1 rfl) ?_
  rw [← hQ]
  exact end_i hX hB hA3 rfl rfl (by obtain ⟨rfl, rfl, rfl⟩ := pr3 hR; exact ⟨rfl, rfl, rfl⟩) (Nat.le_of_ble_eq_true rfl) (Nat.le_of_ble_eq_true rfl) dX5_tellDone_11
noncomputable def D_X5_tellRefused (r : Nat → Int32) (q : Nat → Int32) (f : Nat → Nat → Int64) : Int32 × (Nat → Int32) × (Nat → Nat → Int64) := (-9, va_up q 3 ((q 3) + 1), f)
theorem D_X5_tellRefused_s {r : Nat → Int32} {q : Nat → Int32} {f : Nat → Nat → Int64} : D_X5_tellRefused r q f = (-9, va_up q 3 ((q 3) + 1), f) := rfl
set_option maxHeartbeats 4000000 in
set_option maxRecDepth 100000 in
theorem k_X5_tellRefused (κ : Kt) (l : Launch) (a : Nat → Nat) (r q : Nat → Int32) (f : Nat → Nat → Int64)  (o_x : Int32) (o_q : Nat → Int32) (o_f : Nat → Nat → Int64) (hR : D_X5_tellRefused r q f = (o_x, o_q, o_f)) : CM κ l yX5_tellRefused cX5_tellRefused 1 (some .int) 0 0 0 0 [.ref (a 0)] (cw κ a r q f) (fun o w' => o = some (.int o_x) ∧ o_q 4 = q 4 ∧ w' = cw κ a r o_q o_f) := by
  refine CM_begin (plainFor_of_name pn_RX5) (Nat.le_of_ble_eq_true rfl) ?_
  intro p e s m args below meth c A Q hX hnm hA3 hQ hB ls hl
  have hx := hX.1.1
  have hb := hX.1.2.1
  have hl : lv_has ls 1 [(0, .ref (a 0))] := hl
  replace hR := (D_X5_tellRefused_s).symm.trans hR
  refine lv_aload_n hx hb dX5_tellRefused_0 rfl (lv_at hl 0 rfl) ?_
  refine lv_dup hx hb dX5_tellRefused_1 rfl ?_
  refine gf hX hB cw0 rfl in5 8 (by decide) wm_1_145 rfl rfl dX5_tellRefused_2 ?_
  refine lv_iconst (v := 1) hx hb dX5_tellRefused_5 (by decide) ?_
  refine lv_iadd hx hb dX5_tellRefused_6 ?_
  refine pf (ty := .int) hX hB cw0 rfl in5 tyX5_ok nmX5 8 (by decide) wm_1_145 rfl rfl rfl rfl rfl (Nat.le_of_ble_eq_true rfl) (cwSQ3 _) dX5_tellRefused_7 (fun H locs hB => ?_)
  refine lv_bipush (v := (-9)) hx hb dX5_tellRefused_10 (by decide) ?_
  rw [← hQ]
  exact end_i hX hB hA3 rfl rfl (by obtain ⟨rfl, rfl, rfl⟩ := pr3 hR; exact ⟨rfl, rfl, rfl⟩) (Nat.le_of_ble_eq_true rfl) (Nat.le_of_ble_eq_true rfl) dX5_tellRefused_12
noncomputable def D_X5_settleChange (r : Nat → Int32) (q : Nat → Int32) (f : Nat → Nat → Int64) (i : Nat) : Int32 × (Nat → Int32) × (Nat → Int32) × (Nat → Nat → Int64) := bnd1 (D_X3_isWithin r q f 4 20) (fun (x2 : Int32) => (if x2 = 0 then bnd3 (D_X5_tellRefused r q f) (fun (x18 : Int32) (q19 : Nat → Int32) (f21 : Nat → Nat → Int64) => (x18, r, q19, f21)) else bnd1 (D_X3_countUnlike r q f i 4) (fun (x5 : Int32) => bnd3 (D_X3_becomeLike r q f i 4) (fun (r7 : Nat → Int32) (q9 : Nat → Int32) (f11 : Nat → Nat → Int64) => bnd3 (D_X5_tellDone r7 q9 f11 x5) (fun (x13 : Int32) (q14 : Nat → Int32) (f16 : Nat → Nat → Int64) => (x13, r7, q14, f16))))))
theorem D_X5_settleChange_s {r : Nat → Int32} {q : Nat → Int32} {f : Nat → Nat → Int64} {i : Nat} : D_X5_settleChange r q f i = bnd1 (D_X3_isWithin r q f 4 20) (fun (x2 : Int32) => (if x2 = 0 then bnd3 (D_X5_tellRefused r q f) (fun (x18 : Int32) (q19 : Nat → Int32) (f21 : Nat → Nat → Int64) => (x18, r, q19, f21)) else bnd1 (D_X3_countUnlike r q f i 4) (fun (x5 : Int32) => bnd3 (D_X3_becomeLike r q f i 4) (fun (r7 : Nat → Int32) (q9 : Nat → Int32) (f11 : Nat → Nat → Int64) => bnd3 (D_X5_tellDone r7 q9 f11 x5) (fun (x13 : Int32) (q14 : Nat → Int32) (f16 : Nat → Nat → Int64) => (x13, r7, q14, f16)))))) := rfl
set_option maxHeartbeats 4000000 in
set_option maxRecDepth 100000 in
theorem k_X5_settleChange (κ : Kt) (l : Launch) (a : Nat → Nat) (r q : Nat → Int32) (f : Nat → Nat → Int64) (i : Nat) (hi : i < 15) (o_x : Int32) (o_r : Nat → Int32) (o_q : Nat → Int32) (o_f : Nat → Nat → Int64) (hR : D_X5_settleChange r q f i = (o_x, o_r, o_q, o_f)) : CM κ l yX5_settleChange cX5_settleChange 3 (some .int) 2 46 0 0 [.ref (a 0), .ref (a (6 + 2 * i))] (cw κ a r q f) (fun o w' => o = some (.int o_x) ∧ (okr r → okr o_r) ∧ o_q 4 = q 4 ∧ w' = cw κ a o_r o_q o_f) := by
  refine CM_begin (plainFor_of_name pn_RX5) (Nat.le_of_ble_eq_true rfl) ?_
  intro p e s m args below meth c A Q hX hnm hA3 hQ hB ls hl
  have hx := hX.1.1
  have hb := hX.1.2.1
  have hl : lv_has ls 3 [(0, .ref (a 0)), (1, .ref (a (6 + 2 * i)))] := hl
  replace hR := (D_X5_settleChange_s).symm.trans hR
  refine lv_aload_n hx hb dX5_settleChange_0 rfl (lv_at hl 0 rfl) ?_
  refine gf hX hB cw0 rfl in5 1 (by decide) wm_1_138 rfl rfl dX5_settleChange_1 ?_
  refine lv_ldc2 (own := RX5) (v := 20) hx hb hX.1.2.2.2.1 (hX.1.2.2.2.2 _ wm_3_101) dX5_settleChange_4 ?_
  obtain ⟨x2, hd1⟩ := ex1 (D_X3_isWithin r q f 4 20)
  replace hR := bnd1_use hd1 hR
  refine call_V (n := 1) (As := [.long 20]) (rest := []) hX hB (k_X3_isWithin κ l a r q f 4 20 (by decide) x2 hd1) ⟨rfl, yk_X3_isWithin⟩ wm_3_102 wm_2_28 wm_2_29 wm_1_2 wm_2_30 ⟨Nat.le_of_ble_eq_true rfl, Nat.le_of_ble_eq_true rfl⟩ ⟨Nat.le_of_ble_eq_true rfl, Nat.le_of_ble_eq_true rfl⟩ (cwG (i := 4) (by decide)) rfl rfl rfl hl.1 rfl (Nat.le_of_ble_eq_true rfl) dX5_settleChange_7 (fun o w' H locs hp hB => ?_)
  obtain ⟨rfl, bx2, rfl⟩ := hp
  refine W.eq (g2 := F0 m 10 ls [.int x2]) rfl ?_
  refine lv_if_ne (tgt := 18) hx hb dX5_settleChange_10 (by decide) (fun c3 => ?_) (fun c3 => ?_)
  · replace hR := ifn c3 hR
    refine lv_aload_n hx hb dX5_settleChange_18 rfl (lv_at hl 1 rfl) ?_
    refine lv_aload_n hx hb dX5_settleChange_19 rfl (lv_at hl 0 rfl) ?_
    refine gf hX hB cw0 rfl in5 1 (by decide) wm_1_138 rfl rfl dX5_settleChange_20 ?_
    obtain ⟨x5, hd4⟩ := ex1 (D_X3_countUnlike r q f i 4)
    replace hR := bnd1_use hd4 hR
    refine call_V (n := 1) (As := [.ref (a 14)]) (rest := []) hX hB (k_X3_countUnlike κ l a r q f i 4 hi (by decide) x5 hd4) ⟨rfl, yk_X3_countUnlike⟩ wm_3_107 wm_2_49 wm_2_50 wm_1_2 wm_2_51 ⟨Nat.le_of_ble_eq_true rfl, Nat.le_of_ble_eq_true rfl⟩ ⟨Nat.le_of_ble_eq_true rfl, Nat.le_of_ble_eq_true rfl⟩ (cwG (i := i) hi) rfl rfl rfl hl.1 rfl (Nat.le_of_ble_eq_true rfl) dX5_settleChange_23 (fun o w' H locs hp hB => ?_)
    obtain ⟨rfl, rfl⟩ := hp
    refine W.eq (g2 := F0 m 26 ls [.int x5]) rfl ?_
    refine lv_istore_n (lv' := [(2, .int x5), (0, .ref (a 0)), (1, .ref (a (6 + 2 * i)))]) hx hb dX5_settleChange_26 rfl hl (by decide) rfl (fun ls hl => ?_)
    refine lv_aload_n hx hb dX5_settleChange_27 rfl (lv_at hl 2 rfl) ?_
    refine lv_aload_n hx hb dX5_settleChange_28 rfl (lv_at hl 1 rfl) ?_
    refine gf hX hB cw0 rfl in5 1 (by decide) wm_1_138 rfl rfl dX5_settleChange_29 ?_
    obtain ⟨r7, q9, f11, hd6⟩ := ex3 (D_X3_becomeLike r q f i 4)
    replace hR := bnd3_use hd6 hR
    refine call_V (n := 1) (As := [.ref (a 14)]) (rest := []) hX hB (k_X3_becomeLike κ l a r q f i 4 hi (by decide) r7 q9 f11 hd6) ⟨rfl, yk_X3_becomeLike⟩ wm_3_74 wm_1_205 wm_1_206 wm_1_2 wm_1_207 ⟨Nat.le_of_ble_eq_true rfl, Nat.le_of_ble_eq_true rfl⟩ ⟨Nat.le_of_ble_eq_true rfl, Nat.le_of_ble_eq_true rfl⟩ (cwG (i := i) hi) rfl rfl rfl hl.1 rfl (Nat.le_of_ble_eq_true rfl) dX5_settleChange_32 (fun o w' H locs hp hB => ?_)
    obtain ⟨rfl, ho8, hq10, rfl⟩ := hp
    refine W.eq (g2 := F0 m 35 ls []) rfl ?_
    refine lv_aload_n hx hb dX5_settleChange_35 rfl (lv_at hl 1 rfl) ?_
    refine lv_iload_n hx hb dX5_settleChange_36 rfl (lv_at hl 0 rfl) ?_
    obtain ⟨x13, q14, f16, hd12⟩ := ex3 (D_X5_tellDone r7 q9 f11 x5)
    replace hR := bnd3_use hd12 hR
    refine call_V (n := 1) (As := [.int x5]) (rest := []) hX hB (k_X5_tellDone κ l a r7 q9 f11 x5 x13 q14 f16 hd12) ⟨rfl, yk_X5_tellDone⟩ wm_3_24 wm_3_26 wp_19 wm_1_1 wm_3_27 ⟨Nat.le_of_ble_eq_true rfl, Nat.le_of_ble_eq_true rfl⟩ ⟨Nat.le_of_ble_eq_true rfl, Nat.le_of_ble_eq_true rfl⟩ cw0 rfl rfl rfl hl.1 rfl (Nat.le_of_ble_eq_true rfl) dX5_settleChange_37 (fun o w' H locs hp hB => ?_)
    obtain ⟨rfl, hq15, rfl⟩ := hp
    refine W.eq (g2 := F0 m 40 ls [.int x13]) rfl ?_
    rw [← hQ]
    exact end_i hX hB hA3 rfl rfl (by obtain ⟨rfl, rfl, rfl, rfl⟩ := pr4 hR; exact ⟨rfl, (fun h => ho8 ((fun h => h) h)), (hq15.trans (hq10.trans rfl)), rfl⟩) (Nat.le_of_ble_eq_true rfl) (Nat.le_of_ble_eq_true rfl) dX5_settleChange_40
  · replace hR := ifp c3 hR
    refine lv_aload_n hx hb dX5_settleChange_13 rfl (lv_at hl 0 rfl) ?_
    obtain ⟨x18, q19, f21, hd17⟩ := ex3 (D_X5_tellRefused r q f)
    replace hR := bnd3_use hd17 hR
    refine call_V (n := 0) (As := []) (rest := []) hX hB (k_X5_tellRefused κ l a r q f x18 q19 f21 hd17) ⟨rfl, yk_X5_tellRefused⟩ wm_3_103 wm_3_105 wp_21 wm_1_1 wm_3_106 ⟨Nat.le_of_ble_eq_true rfl, Nat.le_of_ble_eq_true rfl⟩ ⟨Nat.le_of_ble_eq_true rfl, Nat.le_of_ble_eq_true rfl⟩ cw0 rfl rfl rfl hl.1 rfl (Nat.le_of_ble_eq_true rfl) dX5_settleChange_14 (fun o w' H locs hp hB => ?_)
    obtain ⟨rfl, hq20, rfl⟩ := hp
    refine W.eq (g2 := F0 m 17 ls [.int x18]) rfl ?_
    rw [← hQ]
    exact end_i hX hB hA3 rfl rfl (by obtain ⟨rfl, rfl, rfl, rfl⟩ := pr4 hR; exact ⟨rfl, (fun h => h), (hq20.trans rfl), rfl⟩) (Nat.le_of_ble_eq_true rfl) (Nat.le_of_ble_eq_true rfl) dX5_settleChange_17
noncomputable def D_X5_settleForm (r : Nat → Int32) (q : Nat → Int32) (f : Nat → Nat → Int64) (i : Nat) (j : Nat) : Int32 × (Nat → Int32) × (Nat → Int32) × (Nat → Nat → Int64) := bnd1 (D_X3_isWithin r q f i 20) (fun (x2 : Int32) => (if x2 = 0 then bnd3 (D_X5_tellRefused r q f) (fun (x18 : Int32) (q19 : Nat → Int32) (f21 : Nat → Nat → Int64) => (x18, r, q19, f21)) else bnd3 (D_X3_becomeLike r q f j i) (fun (r5 : Nat → Int32) (q7 : Nat → Int32) (f9 : Nat → Nat → Int64) => bnd1 (D_X3_countFilled r5 q7 f9 j) (fun (x11 : Int32) => bnd3 (D_X5_tellDone r5 q7 f9 x11) (fun (x13 : Int32) (q14 : Nat → Int32) (f16 : Nat → Nat → Int64) => (x13, r5, q14, f16))))))
theorem D_X5_settleForm_s {r : Nat → Int32} {q : Nat → Int32} {f : Nat → Nat → Int64} {i : Nat} {j : Nat} : D_X5_settleForm r q f i j = bnd1 (D_X3_isWithin r q f i 20) (fun (x2 : Int32) => (if x2 = 0 then bnd3 (D_X5_tellRefused r q f) (fun (x18 : Int32) (q19 : Nat → Int32) (f21 : Nat → Nat → Int64) => (x18, r, q19, f21)) else bnd3 (D_X3_becomeLike r q f j i) (fun (r5 : Nat → Int32) (q7 : Nat → Int32) (f9 : Nat → Nat → Int64) => bnd1 (D_X3_countFilled r5 q7 f9 j) (fun (x11 : Int32) => bnd3 (D_X5_tellDone r5 q7 f9 x11) (fun (x13 : Int32) (q14 : Nat → Int32) (f16 : Nat → Nat → Int64) => (x13, r5, q14, f16)))))) := rfl
set_option maxHeartbeats 4000000 in
set_option maxRecDepth 100000 in
theorem k_X5_settleForm (κ : Kt) (l : Launch) (a : Nat → Nat) (r q : Nat → Int32) (f : Nat → Nat → Int64) (i : Nat) (j : Nat) (hi : i < 15) (hj : j < 15) (o_x : Int32) (o_r : Nat → Int32) (o_q : Nat → Int32) (o_f : Nat → Nat → Int64) (hR : D_X5_settleForm r q f i j = (o_x, o_r, o_q, o_f)) : CM κ l yX5_settleForm cX5_settleForm 3 (some .int) 2 46 0 0 [.ref (a 0), .ref (a (6 + 2 * i)), .ref (a (6 + 2 * j))] (cw κ a r q f) (fun o w' => o = some (.int o_x) ∧ (okr r → okr o_r) ∧ o_q 4 = q 4 ∧ w' = cw κ a o_r o_q o_f) := by
  refine CM_begin (plainFor_of_name pn_RX5) (Nat.le_of_ble_eq_true rfl) ?_
  intro p e s m args below meth c A Q hX hnm hA3 hQ hB ls hl
  have hx := hX.1.1
  have hb := hX.1.2.1
  have hl : lv_has ls 3 [(0, .ref (a 0)), (1, .ref (a (6 + 2 * i))), (2, .ref (a (6 + 2 * j)))] := hl
  replace hR := (D_X5_settleForm_s).symm.trans hR
  refine lv_aload_n hx hb dX5_settleForm_0 rfl (lv_at hl 1 rfl) ?_
  refine lv_ldc2 (own := RX5) (v := 20) hx hb hX.1.2.2.2.1 (hX.1.2.2.2.2 _ wm_3_101) dX5_settleForm_1 ?_
  obtain ⟨x2, hd1⟩ := ex1 (D_X3_isWithin r q f i 20)
  replace hR := bnd1_use hd1 hR
  refine call_V (n := 1) (As := [.long 20]) (rest := []) hX hB (k_X3_isWithin κ l a r q f i 20 hi x2 hd1) ⟨rfl, yk_X3_isWithin⟩ wm_3_102 wm_2_28 wm_2_29 wm_1_2 wm_2_30 ⟨Nat.le_of_ble_eq_true rfl, Nat.le_of_ble_eq_true rfl⟩ ⟨Nat.le_of_ble_eq_true rfl, Nat.le_of_ble_eq_true rfl⟩ (cwG (i := i) hi) rfl rfl rfl hl.1 rfl (Nat.le_of_ble_eq_true rfl) dX5_settleForm_4 (fun o w' H locs hp hB => ?_)
  obtain ⟨rfl, bx2, rfl⟩ := hp
  refine W.eq (g2 := F0 m 7 ls [.int x2]) rfl ?_
  refine lv_if_ne (tgt := 15) hx hb dX5_settleForm_7 (by decide) (fun c3 => ?_) (fun c3 => ?_)
  · replace hR := ifn c3 hR
    refine lv_aload_n hx hb dX5_settleForm_15 rfl (lv_at hl 2 rfl) ?_
    refine lv_aload_n hx hb dX5_settleForm_16 rfl (lv_at hl 1 rfl) ?_
    obtain ⟨r5, q7, f9, hd4⟩ := ex3 (D_X3_becomeLike r q f j i)
    replace hR := bnd3_use hd4 hR
    refine call_V (n := 1) (As := [.ref (a (6 + 2 * i))]) (rest := []) hX hB (k_X3_becomeLike κ l a r q f j i hj hi r5 q7 f9 hd4) ⟨rfl, yk_X3_becomeLike⟩ wm_3_74 wm_1_205 wm_1_206 wm_1_2 wm_1_207 ⟨Nat.le_of_ble_eq_true rfl, Nat.le_of_ble_eq_true rfl⟩ ⟨Nat.le_of_ble_eq_true rfl, Nat.le_of_ble_eq_true rfl⟩ (cwG (i := j) hj) rfl rfl rfl hl.1 rfl (Nat.le_of_ble_eq_true rfl) dX5_settleForm_17 (fun o w' H locs hp hB => ?_)
    obtain ⟨rfl, ho6, hq8, rfl⟩ := hp
    refine W.eq (g2 := F0 m 20 ls []) rfl ?_
    refine lv_aload_n hx hb dX5_settleForm_20 rfl (lv_at hl 0 rfl) ?_
    refine lv_aload_n hx hb dX5_settleForm_21 rfl (lv_at hl 2 rfl) ?_
    obtain ⟨x11, hd10⟩ := ex1 (D_X3_countFilled r5 q7 f9 j)
    replace hR := bnd1_use hd10 hR
    refine call_V (n := 0) (As := []) (rest := [.ref (a 0)]) hX hB (k_X3_countFilled κ l a r5 q7 f9 j hj x11 hd10) ⟨rfl, yk_X3_countFilled⟩ wm_3_19 wm_3_20 wm_3_21 wm_1_2 wm_3_22 ⟨Nat.le_of_ble_eq_true rfl, Nat.le_of_ble_eq_true rfl⟩ ⟨Nat.le_of_ble_eq_true rfl, Nat.le_of_ble_eq_true rfl⟩ (cwG (i := j) hj) rfl rfl rfl hl.1 rfl (Nat.le_of_ble_eq_true rfl) dX5_settleForm_22 (fun o w' H locs hp hB => ?_)
    obtain ⟨rfl, rfl⟩ := hp
    refine W.eq (g2 := F0 m 25 ls [.int x11, .ref (a 0)]) rfl ?_
    obtain ⟨x13, q14, f16, hd12⟩ := ex3 (D_X5_tellDone r5 q7 f9 x11)
    replace hR := bnd3_use hd12 hR
    refine call_V (n := 1) (As := [.int x11]) (rest := []) hX hB (k_X5_tellDone κ l a r5 q7 f9 x11 x13 q14 f16 hd12) ⟨rfl, yk_X5_tellDone⟩ wm_3_24 wm_3_26 wp_19 wm_1_1 wm_3_27 ⟨Nat.le_of_ble_eq_true rfl, Nat.le_of_ble_eq_true rfl⟩ ⟨Nat.le_of_ble_eq_true rfl, Nat.le_of_ble_eq_true rfl⟩ cw0 rfl rfl rfl hl.1 rfl (Nat.le_of_ble_eq_true rfl) dX5_settleForm_25 (fun o w' H locs hp hB => ?_)
    obtain ⟨rfl, hq15, rfl⟩ := hp
    refine W.eq (g2 := F0 m 28 ls [.int x13]) rfl ?_
    rw [← hQ]
    exact end_i hX hB hA3 rfl rfl (by obtain ⟨rfl, rfl, rfl, rfl⟩ := pr4 hR; exact ⟨rfl, (fun h => ho6 ((fun h => h) h)), (hq15.trans (hq8.trans rfl)), rfl⟩) (Nat.le_of_ble_eq_true rfl) (Nat.le_of_ble_eq_true rfl) dX5_settleForm_28
  · replace hR := ifp c3 hR
    refine lv_aload_n hx hb dX5_settleForm_10 rfl (lv_at hl 0 rfl) ?_
    obtain ⟨x18, q19, f21, hd17⟩ := ex3 (D_X5_tellRefused r q f)
    replace hR := bnd3_use hd17 hR
    refine call_V (n := 0) (As := []) (rest := []) hX hB (k_X5_tellRefused κ l a r q f x18 q19 f21 hd17) ⟨rfl, yk_X5_tellRefused⟩ wm_3_103 wm_3_105 wp_21 wm_1_1 wm_3_106 ⟨Nat.le_of_ble_eq_true rfl, Nat.le_of_ble_eq_true rfl⟩ ⟨Nat.le_of_ble_eq_true rfl, Nat.le_of_ble_eq_true rfl⟩ cw0 rfl rfl rfl hl.1 rfl (Nat.le_of_ble_eq_true rfl) dX5_settleForm_11 (fun o w' H locs hp hB => ?_)
    obtain ⟨rfl, hq20, rfl⟩ := hp
    refine W.eq (g2 := F0 m 14 ls [.int x18]) rfl ?_
    rw [← hQ]
    exact end_i hX hB hA3 rfl rfl (by obtain ⟨rfl, rfl, rfl, rfl⟩ := pr4 hR; exact ⟨rfl, (fun h => h), (hq20.trans rfl), rfl⟩) (Nat.le_of_ble_eq_true rfl) (Nat.le_of_ble_eq_true rfl) dX5_settleForm_14
noncomputable def D_X5_findForm (r : Nat → Int32) (q : Nat → Int32) (f : Nat → Nat → Int64) (j : Nat) (p1 : Int32) : Nat × (Nat → Int32) × (Nat → Int32) × (Nat → Nat → Int64) := (if p1 = 0 then bnd3 (D_X4_walk r q f j) (fun (r3 : Nat → Int32) (q5 : Nat → Int32) (f7 : Nat → Nat → Int64) => (if (q5 0) = 0 then (if p1 = 0 then (6, r3, q5, f7) else (7, r3, q5, f7)) else (15, r3, q5, f7))) else (if p1 = 1 then bnd3 (D_X4_walk r q f j) (fun (r21 : Nat → Int32) (q23 : Nat → Int32) (f25 : Nat → Nat → Int64) => (if (q23 0) = 0 then (if p1 = 0 then (6, r21, q23, f25) else (7, r21, q23, f25)) else (15, r21, q23, f25))) else bnd3 (D_X1_walk r q f j) (fun (r12 : Nat → Int32) (q14 : Nat → Int32) (f16 : Nat → Nat → Int64) => (if (q14 1) = 0 then (if p1 = 2 then (8, r12, q14, f16) else (if p1 = 3 then (9, r12, q14, f16) else (10, r12, q14, f16))) else (15, r12, q14, f16)))))
theorem D_X5_findForm_s {r : Nat → Int32} {q : Nat → Int32} {f : Nat → Nat → Int64} {j : Nat} {p1 : Int32} : D_X5_findForm r q f j p1 = (if p1 = 0 then bnd3 (D_X4_walk r q f j) (fun (r3 : Nat → Int32) (q5 : Nat → Int32) (f7 : Nat → Nat → Int64) => (if (q5 0) = 0 then (if p1 = 0 then (6, r3, q5, f7) else (7, r3, q5, f7)) else (15, r3, q5, f7))) else (if p1 = 1 then bnd3 (D_X4_walk r q f j) (fun (r21 : Nat → Int32) (q23 : Nat → Int32) (f25 : Nat → Nat → Int64) => (if (q23 0) = 0 then (if p1 = 0 then (6, r21, q23, f25) else (7, r21, q23, f25)) else (15, r21, q23, f25))) else bnd3 (D_X1_walk r q f j) (fun (r12 : Nat → Int32) (q14 : Nat → Int32) (f16 : Nat → Nat → Int64) => (if (q14 1) = 0 then (if p1 = 2 then (8, r12, q14, f16) else (if p1 = 3 then (9, r12, q14, f16) else (10, r12, q14, f16))) else (15, r12, q14, f16))))) := rfl
set_option maxHeartbeats 4000000 in
set_option maxRecDepth 100000 in
theorem k_X5_findForm (κ : Kt) (l : Launch) (a : Nat → Nat) (r q : Nat → Int32) (f : Nat → Nat → Int64) (j : Nat) (p1 : Int32) (hj : j < 15) (o_x : Nat) (o_r : Nat → Int32) (o_q : Nat → Int32) (o_f : Nat → Nat → Int64) (hR : D_X5_findForm r q f j p1 = (o_x, o_r, o_q, o_f)) : CM κ l yX5_findForm cX5_findForm 3 (some (.object "Gridmender$Grid")) 5 124 0 0 [.ref (a 0), .ref (a (6 + 2 * j)), .int p1] (cw κ a r q f) (fun o w' => (o_x = 15 ∧ o = some .null ∨ o_x < 15 ∧ o = some (.ref (a (6 + 2 * o_x)))) ∧ (okr r → okr o_r) ∧ o_q 4 = q 4 ∧ w' = cw κ a o_r o_q o_f) := by
  refine CM_begin (plainFor_of_name pn_RX5) (Nat.le_of_ble_eq_true rfl) ?_
  intro p e s m args below meth c A Q hX hnm hA3 hQ hB ls hl
  have hx := hX.1.1
  have hb := hX.1.2.1
  have hl : lv_has ls 3 [(0, .ref (a 0)), (1, .ref (a (6 + 2 * j))), (2, .int p1)] := hl
  replace hR := (D_X5_findForm_s).symm.trans hR
  refine lv_iload_n hx hb dX5_findForm_0 rfl (lv_at hl 2 rfl) ?_
  refine lv_if_eq (tgt := 9) hx hb dX5_findForm_1 (by decide) (fun c1 => ?_) (fun c1 => ?_)
  · replace hR := ifp c1 hR
    refine lv_aload_n hx hb dX5_findForm_9 rfl (lv_at hl 0 rfl) ?_
    refine gf hX hB cw0 rfl in5 3 (by decide) wm_1_140 rfl rfl dX5_findForm_10 ?_
    refine lv_aload_n hx hb dX5_findForm_13 rfl (lv_at hl 1 rfl) ?_
    obtain ⟨r3, q5, f7, hd2⟩ := ex3 (D_X4_walk r q f j)
    replace hR := bnd3_use hd2 hR
    refine call_V (n := 1) (As := [.ref (a (6 + 2 * j))]) (rest := []) hX hB (k_X4_walk κ l a r q f j hj r3 q5 f7 hd2) ⟨rfl, yk_X4_walk⟩ wm_1_200 wm_1_201 wm_1_202 wm_1_3 wm_1_203 ⟨Nat.le_of_ble_eq_true rfl, Nat.le_of_ble_eq_true rfl⟩ ⟨Nat.le_of_ble_eq_true rfl, Nat.le_of_ble_eq_true rfl⟩ cw2 rfl rfl rfl hl.1 rfl (Nat.le_of_ble_eq_true rfl) dX5_findForm_14 (fun o w' H locs hp hB => ?_)
    obtain ⟨rfl, ho4, hq6, rfl⟩ := hp
    refine W.eq (g2 := F0 m 17 ls []) rfl ?_
    refine lv_aload_n hx hb dX5_findForm_17 rfl (lv_at hl 0 rfl) ?_
    refine gf hX hB cw0 rfl in5 3 (by decide) wm_1_140 rfl rfl dX5_findForm_18 ?_
    refine gfN hX hB cw2 rfl in4 2 (by decide) wn_1_79 rfl rfl dX5_findForm_21 ?_
    refine lv_if_eq (tgt := 29) hx hb dX5_findForm_24 (by decide) (fun c8 => ?_) (fun c8 => ?_)
    · replace hR := ifp c8 hR
      refine lv_iload_n hx hb dX5_findForm_29 rfl (lv_at hl 2 rfl) ?_
      refine lv_if_ne (tgt := 43) hx hb dX5_findForm_30 (by decide) (fun c9 => ?_) (fun c9 => ?_)
      · replace hR := ifn c9 hR
        refine lv_aload_n hx hb dX5_findForm_43 rfl (lv_at hl 0 rfl) ?_
        refine gf hX hB cw0 rfl in5 3 (by decide) wm_1_140 rfl rfl dX5_findForm_44 ?_
        refine gfN hX hB cw2 rfl in4 1 (by decide) wn_1_77 rfl rfl dX5_findForm_47 ?_
        rw [← hQ]
        exact end_a hX hB hA3 rfl (Or.inr ⟨_, rfl⟩) (by obtain ⟨rfl, rfl, rfl, rfl⟩ := pr4 hR; exact ⟨Or.inr ⟨by decide, rfl⟩, (fun h => ho4 ((fun h => h) h)), (hq6.trans rfl), rfl⟩) (Nat.le_of_ble_eq_true rfl) (Nat.le_of_ble_eq_true rfl) dX5_findForm_50
      · replace hR := ifp c9 hR
        refine lv_aload_n hx hb dX5_findForm_33 rfl (lv_at hl 0 rfl) ?_
        refine gf hX hB cw0 rfl in5 3 (by decide) wm_1_140 rfl rfl dX5_findForm_34 ?_
        refine gfN hX hB cw2 rfl in4 0 (by decide) wn_1_75 rfl rfl dX5_findForm_37 ?_
        refine lv_goto (tgt := 50) hx hb dX5_findForm_40 (by decide) ?_
        rw [← hQ]
        exact end_a hX hB hA3 rfl (Or.inr ⟨_, rfl⟩) (by obtain ⟨rfl, rfl, rfl, rfl⟩ := pr4 hR; exact ⟨Or.inr ⟨by decide, rfl⟩, (fun h => ho4 ((fun h => h) h)), (hq6.trans rfl), rfl⟩) (Nat.le_of_ble_eq_true rfl) (Nat.le_of_ble_eq_true rfl) dX5_findForm_50
    · replace hR := ifn c8 hR
      refine lv_null hx hb dX5_findForm_27 ?_
      rw [← hQ]
      exact end_a hX hB hA3 rfl (Or.inl rfl) (by obtain ⟨rfl, rfl, rfl, rfl⟩ := pr4 hR; exact ⟨Or.inl ⟨rfl, rfl⟩, (fun h => ho4 ((fun h => h) h)), (hq6.trans rfl), rfl⟩) (Nat.le_of_ble_eq_true rfl) (Nat.le_of_ble_eq_true rfl) dX5_findForm_28
  · replace hR := ifn c1 hR
    refine lv_iload_n hx hb dX5_findForm_4 rfl (lv_at hl 2 rfl) ?_
    refine lv_iconst (v := 1) hx hb dX5_findForm_5 (by decide) ?_
    refine lv_icmp_ne (tgt := 51) hx hb dX5_findForm_6 (by decide) (fun c10 => ?_) (fun c10 => ?_)
    · replace hR := ifn c10 hR
      refine lv_aload_n hx hb dX5_findForm_51 rfl (lv_at hl 0 rfl) ?_
      refine gf hX hB cw0 rfl in5 4 (by decide) wm_1_141 rfl rfl dX5_findForm_52 ?_
      refine lv_aload_n hx hb dX5_findForm_55 rfl (lv_at hl 1 rfl) ?_
      obtain ⟨r12, q14, f16, hd11⟩ := ex3 (D_X1_walk r q f j)
      replace hR := bnd3_use hd11 hR
      refine call_V (n := 1) (As := [.ref (a (6 + 2 * j))]) (rest := []) hX hB (k_X1_walk κ l a r q f j hj r12 q14 f16 hd11) ⟨rfl, yk_X1_walk⟩ wm_2_72 wm_2_73 wm_2_74 wm_1_4 wm_2_75 ⟨Nat.le_of_ble_eq_true rfl, Nat.le_of_ble_eq_true rfl⟩ ⟨Nat.le_of_ble_eq_true rfl, Nat.le_of_ble_eq_true rfl⟩ cw3 rfl rfl rfl hl.1 rfl (Nat.le_of_ble_eq_true rfl) dX5_findForm_56 (fun o w' H locs hp hB => ?_)
      obtain ⟨rfl, ho13, hq15, rfl⟩ := hp
      refine W.eq (g2 := F0 m 59 ls []) rfl ?_
      refine lv_aload_n hx hb dX5_findForm_59 rfl (lv_at hl 0 rfl) ?_
      refine gf hX hB cw0 rfl in5 4 (by decide) wm_1_141 rfl rfl dX5_findForm_60 ?_
      refine gfN hX hB cw3 rfl in1 3 (by decide) wn_1_105 rfl rfl dX5_findForm_63 ?_
      refine lv_if_eq (tgt := 71) hx hb dX5_findForm_66 (by decide) (fun c17 => ?_) (fun c17 => ?_)
      · replace hR := ifp c17 hR
        refine lv_iload_n hx hb dX5_findForm_71 rfl (lv_at hl 2 rfl) ?_
        refine lv_iconst (v := 2) hx hb dX5_findForm_72 (by decide) ?_
        refine lv_icmp_ne (tgt := 84) hx hb dX5_findForm_73 (by decide) (fun c18 => ?_) (fun c18 => ?_)
        · replace hR := ifn c18 hR
          refine lv_iload_n hx hb dX5_findForm_84 rfl (lv_at hl 2 rfl) ?_
          refine lv_iconst (v := 3) hx hb dX5_findForm_85 (by decide) ?_
          refine lv_icmp_ne (tgt := 99) hx hb dX5_findForm_86 (by decide) (fun c19 => ?_) (fun c19 => ?_)
          · replace hR := ifn c19 hR
            refine lv_aload_n hx hb dX5_findForm_99 rfl (lv_at hl 0 rfl) ?_
            refine gf hX hB cw0 rfl in5 4 (by decide) wm_1_141 rfl rfl dX5_findForm_100 ?_
            refine gfN hX hB cw3 rfl in1 2 (by decide) wn_1_103 rfl rfl dX5_findForm_103 ?_
            rw [← hQ]
            exact end_a hX hB hA3 rfl (Or.inr ⟨_, rfl⟩) (by obtain ⟨rfl, rfl, rfl, rfl⟩ := pr4 hR; exact ⟨Or.inr ⟨by decide, rfl⟩, (fun h => ho13 ((fun h => h) h)), (hq15.trans rfl), rfl⟩) (Nat.le_of_ble_eq_true rfl) (Nat.le_of_ble_eq_true rfl) dX5_findForm_106
          · replace hR := ifp c19 hR
            refine lv_aload_n hx hb dX5_findForm_89 rfl (lv_at hl 0 rfl) ?_
            refine gf hX hB cw0 rfl in5 4 (by decide) wm_1_141 rfl rfl dX5_findForm_90 ?_
            refine gfN hX hB cw3 rfl in1 1 (by decide) wn_1_100 rfl rfl dX5_findForm_93 ?_
            refine lv_goto (tgt := 106) hx hb dX5_findForm_96 (by decide) ?_
            rw [← hQ]
            exact end_a hX hB hA3 rfl (Or.inr ⟨_, rfl⟩) (by obtain ⟨rfl, rfl, rfl, rfl⟩ := pr4 hR; exact ⟨Or.inr ⟨by decide, rfl⟩, (fun h => ho13 ((fun h => h) h)), (hq15.trans rfl), rfl⟩) (Nat.le_of_ble_eq_true rfl) (Nat.le_of_ble_eq_true rfl) dX5_findForm_106
        · replace hR := ifp c18 hR
          refine lv_aload_n hx hb dX5_findForm_76 rfl (lv_at hl 0 rfl) ?_
          refine gf hX hB cw0 rfl in5 4 (by decide) wm_1_141 rfl rfl dX5_findForm_77 ?_
          refine gfN hX hB cw3 rfl in1 0 (by decide) wn_1_97 rfl rfl dX5_findForm_80 ?_
          rw [← hQ]
          exact end_a hX hB hA3 rfl (Or.inr ⟨_, rfl⟩) (by obtain ⟨rfl, rfl, rfl, rfl⟩ := pr4 hR; exact ⟨Or.inr ⟨by decide, rfl⟩, (fun h => ho13 ((fun h => h) h)), (hq15.trans rfl), rfl⟩) (Nat.le_of_ble_eq_true rfl) (Nat.le_of_ble_eq_true rfl) dX5_findForm_83
      · replace hR := ifn c17 hR
        refine lv_null hx hb dX5_findForm_69 ?_
        rw [← hQ]
        exact end_a hX hB hA3 rfl (Or.inl rfl) (by obtain ⟨rfl, rfl, rfl, rfl⟩ := pr4 hR; exact ⟨Or.inl ⟨rfl, rfl⟩, (fun h => ho13 ((fun h => h) h)), (hq15.trans rfl), rfl⟩) (Nat.le_of_ble_eq_true rfl) (Nat.le_of_ble_eq_true rfl) dX5_findForm_70
    · replace hR := ifp c10 hR
      refine lv_aload_n hx hb dX5_findForm_9 rfl (lv_at hl 0 rfl) ?_
      refine gf hX hB cw0 rfl in5 3 (by decide) wm_1_140 rfl rfl dX5_findForm_10 ?_
      refine lv_aload_n hx hb dX5_findForm_13 rfl (lv_at hl 1 rfl) ?_
      obtain ⟨r21, q23, f25, hd20⟩ := ex3 (D_X4_walk r q f j)
      replace hR := bnd3_use hd20 hR
      refine call_V (n := 1) (As := [.ref (a (6 + 2 * j))]) (rest := []) hX hB (k_X4_walk κ l a r q f j hj r21 q23 f25 hd20) ⟨rfl, yk_X4_walk⟩ wm_1_200 wm_1_201 wm_1_202 wm_1_3 wm_1_203 ⟨Nat.le_of_ble_eq_true rfl, Nat.le_of_ble_eq_true rfl⟩ ⟨Nat.le_of_ble_eq_true rfl, Nat.le_of_ble_eq_true rfl⟩ cw2 rfl rfl rfl hl.1 rfl (Nat.le_of_ble_eq_true rfl) dX5_findForm_14 (fun o w' H locs hp hB => ?_)
      obtain ⟨rfl, ho22, hq24, rfl⟩ := hp
      refine W.eq (g2 := F0 m 17 ls []) rfl ?_
      refine lv_aload_n hx hb dX5_findForm_17 rfl (lv_at hl 0 rfl) ?_
      refine gf hX hB cw0 rfl in5 3 (by decide) wm_1_140 rfl rfl dX5_findForm_18 ?_
      refine gfN hX hB cw2 rfl in4 2 (by decide) wn_1_79 rfl rfl dX5_findForm_21 ?_
      refine lv_if_eq (tgt := 29) hx hb dX5_findForm_24 (by decide) (fun c26 => ?_) (fun c26 => ?_)
      · replace hR := ifp c26 hR
        refine lv_iload_n hx hb dX5_findForm_29 rfl (lv_at hl 2 rfl) ?_
        refine lv_if_ne (tgt := 43) hx hb dX5_findForm_30 (by decide) (fun c27 => ?_) (fun c27 => ?_)
        · replace hR := ifn c27 hR
          refine lv_aload_n hx hb dX5_findForm_43 rfl (lv_at hl 0 rfl) ?_
          refine gf hX hB cw0 rfl in5 3 (by decide) wm_1_140 rfl rfl dX5_findForm_44 ?_
          refine gfN hX hB cw2 rfl in4 1 (by decide) wn_1_77 rfl rfl dX5_findForm_47 ?_
          rw [← hQ]
          exact end_a hX hB hA3 rfl (Or.inr ⟨_, rfl⟩) (by obtain ⟨rfl, rfl, rfl, rfl⟩ := pr4 hR; exact ⟨Or.inr ⟨by decide, rfl⟩, (fun h => ho22 ((fun h => h) h)), (hq24.trans rfl), rfl⟩) (Nat.le_of_ble_eq_true rfl) (Nat.le_of_ble_eq_true rfl) dX5_findForm_50
        · replace hR := ifp c27 hR
          refine lv_aload_n hx hb dX5_findForm_33 rfl (lv_at hl 0 rfl) ?_
          refine gf hX hB cw0 rfl in5 3 (by decide) wm_1_140 rfl rfl dX5_findForm_34 ?_
          refine gfN hX hB cw2 rfl in4 0 (by decide) wn_1_75 rfl rfl dX5_findForm_37 ?_
          refine lv_goto (tgt := 50) hx hb dX5_findForm_40 (by decide) ?_
          rw [← hQ]
          exact end_a hX hB hA3 rfl (Or.inr ⟨_, rfl⟩) (by obtain ⟨rfl, rfl, rfl, rfl⟩ := pr4 hR; exact ⟨Or.inr ⟨by decide, rfl⟩, (fun h => ho22 ((fun h => h) h)), (hq24.trans rfl), rfl⟩) (Nat.le_of_ble_eq_true rfl) (Nat.le_of_ble_eq_true rfl) dX5_findForm_50
      · replace hR := ifn c26 hR
        refine lv_null hx hb dX5_findForm_27 ?_
        rw [← hQ]
        exact end_a hX hB hA3 rfl (Or.inl rfl) (by obtain ⟨rfl, rfl, rfl, rfl⟩ := pr4 hR; exact ⟨Or.inl ⟨rfl, rfl⟩, (fun h => ho22 ((fun h => h) h)), (hq24.trans rfl), rfl⟩) (Nat.le_of_ble_eq_true rfl) (Nat.le_of_ble_eq_true rfl) dX5_findForm_28
noncomputable def D_X5_leavesRests (r : Nat → Int32) (q : Nat → Int32) (f : Nat → Nat → Int64) (i : Nat) : Int32 × (Nat → Int32) × (Nat → Int32) × (Nat → Nat → Int64) := (if (r (2 * i)) = (r (2 * i + 1)) then bnd1 (D_X0_byFirstRow r q f i) (fun (x3 : Int64) => (if (lg_cmp x3 0) = 0 then (0, r, q, f) else bnd3 (D_X4_walk r q f i) (fun (r6 : Nat → Int32) (q8 : Nat → Int32) (f10 : Nat → Nat → Int64) => (if (q8 0) = 0 then (1, r6, q8, f10) else (0, r6, q8, f10))))) else (0, r, q, f))
theorem D_X5_leavesRests_s {r : Nat → Int32} {q : Nat → Int32} {f : Nat → Nat → Int64} {i : Nat} : D_X5_leavesRests r q f i = (if (r (2 * i)) = (r (2 * i + 1)) then bnd1 (D_X0_byFirstRow r q f i) (fun (x3 : Int64) => (if (lg_cmp x3 0) = 0 then (0, r, q, f) else bnd3 (D_X4_walk r q f i) (fun (r6 : Nat → Int32) (q8 : Nat → Int32) (f10 : Nat → Nat → Int64) => (if (q8 0) = 0 then (1, r6, q8, f10) else (0, r6, q8, f10))))) else (0, r, q, f)) := rfl
set_option maxHeartbeats 4000000 in
set_option maxRecDepth 100000 in
theorem k_X5_leavesRests (κ : Kt) (l : Launch) (a : Nat → Nat) (r q : Nat → Int32) (f : Nat → Nat → Int64) (i : Nat) (hi : i < 15) (o_x : Int32) (o_r : Nat → Int32) (o_q : Nat → Int32) (o_f : Nat → Nat → Int64) (hR : D_X5_leavesRests r q f i = (o_x, o_r, o_q, o_f)) : CM κ l yX5_leavesRests cX5_leavesRests 2 (some .boolean) 6 165 0 0 [.ref (a 0), .ref (a (6 + 2 * i))] (cw κ a r q f) (fun o w' => o = some (.int o_x) ∧ (o_x = 0 ∨ o_x = 1) ∧ (okr r → okr o_r) ∧ o_q 4 = q 4 ∧ w' = cw κ a o_r o_q o_f) := by
  refine CM_begin (plainFor_of_name pn_RX5) (Nat.le_of_ble_eq_true rfl) ?_
  intro p e s m args below meth c A Q hX hnm hA3 hQ hB ls hl
  have hx := hX.1.1
  have hb := hX.1.2.1
  have hl : lv_has ls 2 [(0, .ref (a 0)), (1, .ref (a (6 + 2 * i)))] := hl
  replace hR := (D_X5_leavesRests_s).symm.trans hR
  refine lv_aload_n hx hb dX5_leavesRests_0 rfl (lv_at hl 1 rfl) ?_
  refine gfN hX hB (cwG (i := i) hi) rfl in3 1 (by decide) wn_1_51 rfl rfl dX5_leavesRests_1 ?_
  refine lv_aload_n hx hb dX5_leavesRests_4 rfl (lv_at hl 1 rfl) ?_
  refine gfN hX hB (cwG (i := i) hi) rfl in3 2 (by decide) wn_1_57 rfl rfl dX5_leavesRests_5 ?_
  refine lv_icmp_ne (tgt := 20) hx hb dX5_leavesRests_8 (by decide) (fun c1 => ?_) (fun c1 => ?_)
  · replace hR := ifn c1 hR
    refine lv_iconst (v := 0) hx hb dX5_leavesRests_20 (by decide) ?_
    rw [← hQ]
    exact end_i hX hB hA3 rfl rfl (by obtain ⟨rfl, rfl, rfl, rfl⟩ := pr4 hR; exact ⟨rfl, Or.inl rfl, (fun h => h), rfl, rfl⟩) (Nat.le_of_ble_eq_true rfl) (Nat.le_of_ble_eq_true rfl) dX5_leavesRests_21
  · replace hR := ifp c1 hR
    refine lv_aload_n hx hb dX5_leavesRests_11 rfl (lv_at hl 1 rfl) ?_
    obtain ⟨x3, hd2⟩ := ex1 (D_X0_byFirstRow r q f i)
    replace hR := bnd1_use hd2 hR
    refine call_S (n := 1) (As := [.ref (a (6 + 2 * i))]) (rest := []) hX hB (k_X0_byFirstRow κ l a r q f i hi x3 hd2) yk_X0_byFirstRow wm_1_180 wm_1_181 wm_1_29 wm_1_182 ⟨Nat.le_of_ble_eq_true rfl, Nat.le_of_ble_eq_true rfl⟩ ⟨Nat.le_of_ble_eq_true rfl, Nat.le_of_ble_eq_true rfl⟩ rfl hl.1 rfl (Nat.le_of_ble_eq_true rfl) dX5_leavesRests_12 (fun o w' H locs hp hB => ?_)
    obtain ⟨rfl, rfl⟩ := hp
    refine W.eq (g2 := F0 m 15 ls [.long x3]) rfl ?_
    refine lv_lconst (v := 0) hx hb dX5_leavesRests_15 (by decide) ?_
    refine W.lcmp hx hb dX5_leavesRests_16 ?_
    refine lv_if_ne (tgt := 22) hx hb dX5_leavesRests_17 (by decide) (fun c4 => ?_) (fun c4 => ?_)
    · replace hR := ifn c4 hR
      refine lv_aload_n hx hb dX5_leavesRests_22 rfl (lv_at hl 0 rfl) ?_
      refine gf hX hB cw0 rfl in5 3 (by decide) wm_1_140 rfl rfl dX5_leavesRests_23 ?_
      refine lv_aload_n hx hb dX5_leavesRests_26 rfl (lv_at hl 1 rfl) ?_
      obtain ⟨r6, q8, f10, hd5⟩ := ex3 (D_X4_walk r q f i)
      replace hR := bnd3_use hd5 hR
      refine call_V (n := 1) (As := [.ref (a (6 + 2 * i))]) (rest := []) hX hB (k_X4_walk κ l a r q f i hi r6 q8 f10 hd5) ⟨rfl, yk_X4_walk⟩ wm_1_200 wm_1_201 wm_1_202 wm_1_3 wm_1_203 ⟨Nat.le_of_ble_eq_true rfl, Nat.le_of_ble_eq_true rfl⟩ ⟨Nat.le_of_ble_eq_true rfl, Nat.le_of_ble_eq_true rfl⟩ cw2 rfl rfl rfl hl.1 rfl (Nat.le_of_ble_eq_true rfl) dX5_leavesRests_27 (fun o w' H locs hp hB => ?_)
      obtain ⟨rfl, ho7, hq9, rfl⟩ := hp
      refine W.eq (g2 := F0 m 30 ls []) rfl ?_
      refine lv_aload_n hx hb dX5_leavesRests_30 rfl (lv_at hl 0 rfl) ?_
      refine gf hX hB cw0 rfl in5 3 (by decide) wm_1_140 rfl rfl dX5_leavesRests_31 ?_
      refine gfN hX hB cw2 rfl in4 2 (by decide) wn_1_79 rfl rfl dX5_leavesRests_34 ?_
      refine lv_if_ne (tgt := 44) hx hb dX5_leavesRests_37 (by decide) (fun c11 => ?_) (fun c11 => ?_)
      · replace hR := ifn c11 hR
        refine lv_iconst (v := 0) hx hb dX5_leavesRests_44 (by decide) ?_
        rw [← hQ]
        exact end_i hX hB hA3 rfl rfl (by obtain ⟨rfl, rfl, rfl, rfl⟩ := pr4 hR; exact ⟨rfl, Or.inl rfl, (fun h => ho7 ((fun h => h) h)), (hq9.trans rfl), rfl⟩) (Nat.le_of_ble_eq_true rfl) (Nat.le_of_ble_eq_true rfl) dX5_leavesRests_45
      · replace hR := ifp c11 hR
        refine lv_iconst (v := 1) hx hb dX5_leavesRests_40 (by decide) ?_
        refine lv_goto (tgt := 45) hx hb dX5_leavesRests_41 (by decide) ?_
        rw [← hQ]
        exact end_i hX hB hA3 rfl rfl (by obtain ⟨rfl, rfl, rfl, rfl⟩ := pr4 hR; exact ⟨rfl, Or.inr rfl, (fun h => ho7 ((fun h => h) h)), (hq9.trans rfl), rfl⟩) (Nat.le_of_ble_eq_true rfl) (Nat.le_of_ble_eq_true rfl) dX5_leavesRests_45
    · replace hR := ifp c4 hR
      refine lv_iconst (v := 0) hx hb dX5_leavesRests_20 (by decide) ?_
      rw [← hQ]
      exact end_i hX hB hA3 rfl rfl (by obtain ⟨rfl, rfl, rfl, rfl⟩ := pr4 hR; exact ⟨rfl, Or.inl rfl, (fun h => h), rfl, rfl⟩) (Nat.le_of_ble_eq_true rfl) (Nat.le_of_ble_eq_true rfl) dX5_leavesRests_21
noncomputable def D_X5_rowNumber (r : Nat → Int32) (q : Nat → Int32) (f : Nat → Nat → Int64) (p0 : Int32) : Int64 := (if p0 < 0 then 0 else (if 4 ≤ p0 then 0 else nm (((f 15) (p0).toNatClampNeg) : Int64) (fun (g3 : Int64) => g3)))
theorem D_X5_rowNumber_s {r : Nat → Int32} {q : Nat → Int32} {f : Nat → Nat → Int64} {p0 : Int32} : D_X5_rowNumber r q f p0 = (if p0 < 0 then 0 else (if 4 ≤ p0 then 0 else nm (((f 15) (p0).toNatClampNeg) : Int64) (fun (g3 : Int64) => g3))) := rfl
set_option maxHeartbeats 4000000 in
set_option maxRecDepth 100000 in
theorem k_X5_rowNumber (κ : Kt) (l : Launch) (a : Nat → Nat) (r q : Nat → Int32) (f : Nat → Nat → Int64) (p0 : Int32)  (o_x : Int64) (hR : D_X5_rowNumber r q f p0 = o_x) : CM κ l yX5_rowNumber cX5_rowNumber 2 (some .long) 0 0 0 0 [.ref (a 0), .int p0] (cw κ a r q f) (fun o w' => o = some (.long o_x) ∧ w' = cw κ a r q f) := by
  refine CM_begin (plainFor_of_name pn_RX5) (Nat.le_of_ble_eq_true rfl) ?_
  intro p e s m args below meth c A Q hX hnm hA3 hQ hB ls hl
  have hx := hX.1.1
  have hb := hX.1.2.1
  have hl : lv_has ls 2 [(0, .ref (a 0)), (1, .int p0)] := hl
  replace hR := (D_X5_rowNumber_s).symm.trans hR
  refine lv_iload_n hx hb dX5_rowNumber_0 rfl (lv_at hl 1 rfl) ?_
  refine lv_if_lt (tgt := 22) hx hb dX5_rowNumber_1 (by decide) (fun c1 => ?_) (fun c1 => ?_)
  · replace hR := ifp c1 hR
    refine lv_lconst (v := 0) hx hb dX5_rowNumber_22 (by decide) ?_
    rw [← hQ]
    exact end_l hX hB hA3 rfl (by obtain rfl := hR; exact ⟨rfl, rfl⟩) (Nat.le_of_ble_eq_true rfl) (Nat.le_of_ble_eq_true rfl) dX5_rowNumber_23
  · replace hR := ifn c1 hR
    refine lv_iload_n hx hb dX5_rowNumber_4 rfl (lv_at hl 1 rfl) ?_
    refine lv_aload_n hx hb dX5_rowNumber_5 rfl (lv_at hl 0 rfl) ?_
    refine gf hX hB cw0 rfl in5 6 (by decide) wm_1_143 rfl rfl dX5_rowNumber_6 ?_
    refine alenL (v := 4) hX hB cw5 rfl dX5_rowNumber_9 ?_
    refine lv_icmp_ge (tgt := 22) hx hb dX5_rowNumber_10 (by decide) (fun c2 => ?_) (fun c2 => ?_)
    · replace hR := ifp c2 hR
      refine lv_lconst (v := 0) hx hb dX5_rowNumber_22 (by decide) ?_
      rw [← hQ]
      exact end_l hX hB hA3 rfl (by obtain rfl := hR; exact ⟨rfl, rfl⟩) (Nat.le_of_ble_eq_true rfl) (Nat.le_of_ble_eq_true rfl) dX5_rowNumber_23
    · replace hR := ifn c2 hR
      refine lv_aload_n hx hb dX5_rowNumber_13 rfl (lv_at hl 0 rfl) ?_
      refine gf hX hB cw0 rfl in5 6 (by decide) wm_1_143 rfl rfl dX5_rowNumber_14 ?_
      refine lv_iload_n hx hb dX5_rowNumber_17 rfl (lv_at hl 1 rfl) ?_
      refine lald hX hB cw5 (in_of' (N := 4) rfl (by first | assumption | exact i32_not_le.mpr (by assumption)) (by first | assumption | exact i32_not_le.mpr (by assumption))) dX5_rowNumber_18 ?_
      refine lv_topl (fun g3 eg3 => ?_)
      replace hR := nm_use eg3 hR
      refine lv_goto (tgt := 23) hx hb dX5_rowNumber_19 (by decide) ?_
      rw [← hQ]
      exact end_l hX hB hA3 rfl (by obtain rfl := hR; exact ⟨rfl, rfl⟩) (Nat.le_of_ble_eq_true rfl) (Nat.le_of_ble_eq_true rfl) dX5_rowNumber_23
noncomputable def D_X5_setRowNumber (r : Nat → Int32) (q : Nat → Int32) (f : Nat → Nat → Int64) (p0 : Int32) (p1 : Int64) : (Nat → Nat → Int64) := (if p0 < 0 then f else (if 4 ≤ p0 then f else va_up f 15 (vp_updL (f 15) (p0).toNatClampNeg p1)))
theorem D_X5_setRowNumber_s {r : Nat → Int32} {q : Nat → Int32} {f : Nat → Nat → Int64} {p0 : Int32} {p1 : Int64} : D_X5_setRowNumber r q f p0 p1 = (if p0 < 0 then f else (if 4 ≤ p0 then f else va_up f 15 (vp_updL (f 15) (p0).toNatClampNeg p1))) := rfl
set_option maxHeartbeats 4000000 in
set_option maxRecDepth 100000 in
theorem k_X5_setRowNumber (κ : Kt) (l : Launch) (a : Nat → Nat) (r q : Nat → Int32) (f : Nat → Nat → Int64) (p0 : Int32) (p1 : Int64)  (o_f : Nat → Nat → Int64) (hR : D_X5_setRowNumber r q f p0 p1 = o_f) : CM κ l yX5_setRowNumber cX5_setRowNumber 4 (none) 0 0 0 0 [.ref (a 0), .int p0, .long p1] (cw κ a r q f) (fun o w' => o = none ∧ w' = cw κ a r q o_f) := by
  refine CM_begin (plainFor_of_name pn_RX5) (Nat.le_of_ble_eq_true rfl) ?_
  intro p e s m args below meth c A Q hX hnm hA3 hQ hB ls hl
  have hx := hX.1.1
  have hb := hX.1.2.1
  have hl : lv_has ls 4 [(0, .ref (a 0)), (1, .int p0), (2, .long p1)] := hl
  replace hR := (D_X5_setRowNumber_s).symm.trans hR
  refine lv_iload_n hx hb dX5_setRowNumber_0 rfl (lv_at hl 1 rfl) ?_
  refine lv_if_lt (tgt := 20) hx hb dX5_setRowNumber_1 (by decide) (fun c1 => ?_) (fun c1 => ?_)
  · replace hR := ifp c1 hR
    rw [← hQ]
    exact end_v hX hB hA3 rfl (by obtain rfl := hR; exact ⟨rfl, rfl⟩) (Nat.le_of_ble_eq_true rfl) (Nat.le_of_ble_eq_true rfl) dX5_setRowNumber_20
  · replace hR := ifn c1 hR
    refine lv_iload_n hx hb dX5_setRowNumber_4 rfl (lv_at hl 1 rfl) ?_
    refine lv_aload_n hx hb dX5_setRowNumber_5 rfl (lv_at hl 0 rfl) ?_
    refine gf hX hB cw0 rfl in5 6 (by decide) wm_1_143 rfl rfl dX5_setRowNumber_6 ?_
    refine alenL (v := 4) hX hB cw5 rfl dX5_setRowNumber_9 ?_
    refine lv_icmp_ge (tgt := 20) hx hb dX5_setRowNumber_10 (by decide) (fun c2 => ?_) (fun c2 => ?_)
    · replace hR := ifp c2 hR
      rw [← hQ]
      exact end_v hX hB hA3 rfl (by obtain rfl := hR; exact ⟨rfl, rfl⟩) (Nat.le_of_ble_eq_true rfl) (Nat.le_of_ble_eq_true rfl) dX5_setRowNumber_20
    · replace hR := ifn c2 hR
      refine lv_aload_n hx hb dX5_setRowNumber_13 rfl (lv_at hl 0 rfl) ?_
      refine gf hX hB cw0 rfl in5 6 (by decide) wm_1_143 rfl rfl dX5_setRowNumber_14 ?_
      refine lv_iload_n hx hb dX5_setRowNumber_17 rfl (lv_at hl 1 rfl) ?_
      refine lv_lload_n hx hb dX5_setRowNumber_18 rfl (lv_at hl 2 rfl) ?_
      refine last hX hB cw5 (in_of' (N := 4) rfl (by first | assumption | exact i32_not_le.mpr (by assumption)) (by first | assumption | exact i32_not_le.mpr (by assumption))) (cwS5 _) dX5_setRowNumber_19 (fun H locs hB => ?_)
      rw [← hQ]
      exact end_v hX hB hA3 rfl (by obtain rfl := hR; exact ⟨rfl, rfl⟩) (Nat.le_of_ble_eq_true rfl) (Nat.le_of_ble_eq_true rfl) dX5_setRowNumber_20
end
section
-- 26.gm2

noncomputable def D_X5_countLikePairs_13 (r : Nat → Int32) (q : Nat → Int32) (f : Nat → Nat → Int64) (lb4 : Int32 → Int32 → Int32) (y2_4 : Int32) (nn : Nat) : Int32 → Int32 → Int32 := @Nat.rec (fun _ => Int32 → Int32 → Int32) (fun _ _ => default) (fun _ lb13 (y3_13 : Int32) (y1_13 : Int32) => (if 4 ≤ y3_13 then (lb4 (y2_4 + 1) y1_13) else bnd1 (D_X3_isLike r q f ((y2_4).toNatClampNeg) ((y3_13).toNatClampNeg)) (fun (x38 : Int32) => (if x38 = 0 then (lb13 (y3_13 + 1) y1_13) else (lb13 (y3_13 + 1) (y1_13 + 1)))))) nn
theorem D_X5_countLikePairs_13_s {r : Nat → Int32} {q : Nat → Int32} {f : Nat → Nat → Int64} {lb4 : Int32 → Int32 → Int32} {y2_4 : Int32} {nn : Nat} {y3_13 : Int32} {y1_13 : Int32} : D_X5_countLikePairs_13 r q f lb4 y2_4 (nn + 1) y3_13 y1_13 = (if 4 ≤ y3_13 then (lb4 (y2_4 + 1) y1_13) else bnd1 (D_X3_isLike r q f ((y2_4).toNatClampNeg) ((y3_13).toNatClampNeg)) (fun (x38 : Int32) => (if x38 = 0 then ((D_X5_countLikePairs_13 r q f lb4 y2_4 nn) (y3_13 + 1) y1_13) else ((D_X5_countLikePairs_13 r q f lb4 y2_4 nn) (y3_13 + 1) (y1_13 + 1))))) := rfl
noncomputable def D_X5_countLikePairs_4 (r : Nat → Int32) (q : Nat → Int32) (f : Nat → Nat → Int64) (nn : Nat) : Int32 → Int32 → Int32 := @Nat.rec (fun _ => Int32 → Int32 → Int32) (fun _ _ => default) (fun _ lb4 (y2_4 : Int32) (y1_4 : Int32) => (if 4 ≤ y2_4 then y1_4 else (D_X5_countLikePairs_13 r q f lb4 y2_4 (gap 4 (y2_4 + 1) + 1) (y2_4 + 1) y1_4))) nn
theorem D_X5_countLikePairs_4_s {r : Nat → Int32} {q : Nat → Int32} {f : Nat → Nat → Int64} {nn : Nat} {y2_4 : Int32} {y1_4 : Int32} : D_X5_countLikePairs_4 r q f (nn + 1) y2_4 y1_4 = (if 4 ≤ y2_4 then y1_4 else (D_X5_countLikePairs_13 r q f (D_X5_countLikePairs_4 r q f nn) y2_4 (gap 4 (y2_4 + 1) + 1) (y2_4 + 1) y1_4)) := rfl
noncomputable def D_X5_countLikePairs (r : Nat → Int32) (q : Nat → Int32) (f : Nat → Nat → Int64) : Int32 := (D_X5_countLikePairs_4 r q f (gap 4 0 + 1) 0 0)
theorem D_X5_countLikePairs_s {r : Nat → Int32} {q : Nat → Int32} {f : Nat → Nat → Int64} : D_X5_countLikePairs r q f = (D_X5_countLikePairs_4 r q f (gap 4 0 + 1) 0 0) := rfl
set_option maxHeartbeats 4000000 in
set_option maxRecDepth 100000 in
theorem k_X5_countLikePairs (κ : Kt) (l : Launch) (a : Nat → Nat) (r q : Nat → Int32) (f : Nat → Nat → Int64)  (o_x : Int32) (hR : D_X5_countLikePairs r q f = o_x) : CM κ l yX5_countLikePairs cX5_countLikePairs 4 (some .int) 3 67 0 0 [.ref (a 0)] (cw κ a r q f) (fun o w' => o = some (.int o_x) ∧ w' = cw κ a r q f) := by
  refine CM_begin (plainFor_of_name pn_RX5) (Nat.le_of_ble_eq_true rfl) ?_
  intro p e s m args below meth c A Q hX hnm hA3 hQ hB ls hl
  have hx := hX.1.1
  have hb := hX.1.2.1
  have hl : lv_has ls 4 [(0, .ref (a 0))] := hl
  replace hR := (D_X5_countLikePairs_s).symm.trans hR
  refine lv_iconst (v := 0) hx hb dX5_countLikePairs_0 (by decide) ?_
  refine lv_istore_n (lv' := [(1, .int 0), (0, .ref (a 0))]) hx hb dX5_countLikePairs_1 rfl hl (by decide) rfl (fun ls hl => ?_)
  refine lv_iconst (v := 0) hx hb dX5_countLikePairs_2 (by decide) ?_
  refine lv_istore_n (lv' := [(2, .int 0), (1, .int 0), (0, .ref (a 0))]) hx hb dX5_countLikePairs_3 rfl hl (by decide) rfl (fun ls hl => ?_)
  have lp4 : ∀ (nn4 : Nat) (y2_4 : Int32) (y1_4 : Int32) (H : Heap) (locs : List Loc), 0 ≤ y2_4 → gap 4 y2_4 < nn4 → D_X5_countLikePairs_4 r q f nn4 y2_4 y1_4 = o_x → Bd κ A s (cw κ a r q f) H locs → ∀ ls : Array Slot, lv_has ls 4 [(2, .int y2_4), (1, .int y1_4), (0, .ref (a 0))] → W p l e (Rm 3 67 0 0) s m args below meth c H locs 0 0 Q (F0 m 4 ls []) := by
    intro nn4
    induction nn4 with
    | zero => intro y2_4 y1_4 H locs hn2_4 hμ; exact absurd hμ (Nat.not_lt_zero _)
    | succ nn4 ih4 =>
      intro y2_4 y1_4 H locs hn2_4 hμ4 hR hB ls hl
      replace hR := (D_X5_countLikePairs_4_s).symm.trans hR
      refine lv_iload_n hx hb dX5_countLikePairs_4 rfl (lv_at hl 0 rfl) ?_
      refine lv_iconst (v := 4) hx hb dX5_countLikePairs_5 (by decide) ?_
      refine lv_icmp_ge (tgt := 51) hx hb dX5_countLikePairs_6 (by decide) (fun c27 => ?_) (fun c27 => ?_)
      · replace hR := ifp c27 hR
        refine lv_iload_n hx hb dX5_countLikePairs_51 rfl (lv_at hl 1 rfl) ?_
        rw [← hQ]
        exact end_i hX hB hA3 rfl rfl (by obtain rfl := hR; exact ⟨rfl, rfl⟩) (Nat.le_of_ble_eq_true rfl) (Nat.le_of_ble_eq_true rfl) dX5_countLikePairs_52
      · replace hR := ifn c27 hR
        refine lv_iload_n hx hb dX5_countLikePairs_9 rfl (lv_at hl 0 rfl) ?_
        refine lv_iconst (v := 1) hx hb dX5_countLikePairs_10 (by decide) ?_
        refine lv_iadd hx hb dX5_countLikePairs_11 ?_
        refine lv_istore_n (lv' := [(3, .int (y2_4 + 1)), (2, .int y2_4), (1, .int y1_4), (0, .ref (a 0))]) hx hb dX5_countLikePairs_12 rfl hl (by decide) rfl (fun ls hl => ?_)
        have lp13 : ∀ (nn13 : Nat) (y3_13 : Int32) (y1_13 : Int32) (H : Heap) (locs : List Loc), 0 ≤ y3_13 → gap 4 y3_13 < nn13 → D_X5_countLikePairs_13 r q f (D_X5_countLikePairs_4 r q f nn4) y2_4 nn13 y3_13 y1_13 = o_x → Bd κ A s (cw κ a r q f) H locs → ∀ ls : Array Slot, lv_has ls 4 [(3, .int y3_13), (2, .int y2_4), (1, .int y1_13), (0, .ref (a 0))] → W p l e (Rm 3 67 0 0) s m args below meth c H locs 0 0 Q (F0 m 13 ls []) := by
          intro nn13
          induction nn13 with
          | zero => intro y3_13 y1_13 H locs hn3_13 hμ; exact absurd hμ (Nat.not_lt_zero _)
          | succ nn13 ih13 =>
            intro y3_13 y1_13 H locs hn3_13 hμ13 hR hB ls hl
            replace hR := (D_X5_countLikePairs_13_s).symm.trans hR
            refine lv_iload_n hx hb dX5_countLikePairs_13 rfl (lv_at hl 0 rfl) ?_
            refine lv_iconst (v := 4) hx hb dX5_countLikePairs_14 (by decide) ?_
            refine lv_icmp_ge (tgt := 45) hx hb dX5_countLikePairs_15 (by decide) (fun c36 => ?_) (fun c36 => ?_)
            · replace hR := ifp c36 hR
              refine lv_iinc (v := y2_4 + 1) (lv' := [(2, .int (y2_4 + 1)), (3, .int y3_13), (1, .int y1_13), (0, .ref (a 0))]) hx hb dX5_countLikePairs_45 hl (k := 1) rfl rfl (by decide) rfl (fun ls hl => ?_)
              refine lv_goto (tgt := 4) hx hb dX5_countLikePairs_48 (by decide) ?_
              exact ih4 (y2_4 + 1) y1_13 _ _ (nn_step hn2_4 c27) (gap_step c27 hμ4) hR hB _ (lv_sub hl [0, 2, 3] rfl)
            · replace hR := ifn c36 hR
              refine lv_aload_n hx hb dX5_countLikePairs_18 rfl (lv_at hl 3 rfl) ?_
              refine gf hX hB cw0 rfl in5 0 (by decide) wm_1_137 rfl rfl dX5_countLikePairs_19 ?_
              refine lv_iload_n hx hb dX5_countLikePairs_22 rfl (lv_at hl 1 rfl) ?_
              refine aaldG hX hB cw1 (in_of (N := 4) rfl hn2_4 c27) rfl dX5_countLikePairs_23 ?_
              refine lv_aload_n hx hb dX5_countLikePairs_24 rfl (lv_at hl 3 rfl) ?_
              refine gf hX hB cw0 rfl in5 0 (by decide) wm_1_137 rfl rfl dX5_countLikePairs_25 ?_
              refine lv_iload_n hx hb dX5_countLikePairs_28 rfl (lv_at hl 0 rfl) ?_
              refine aaldG hX hB cw1 (in_of (N := 4) rfl hn3_13 c36) rfl dX5_countLikePairs_29 ?_
              obtain ⟨x38, hd37⟩ := ex1 (D_X3_isLike r q f ((y2_4).toNatClampNeg) ((y3_13).toNatClampNeg))
              replace hR := bnd1_use hd37 hR
              refine call_V (n := 1) (As := [.ref (a (6 + 2 * ((y3_13).toNatClampNeg)))]) (rest := []) hX hB (k_X3_isLike κ l a r q f ((y2_4).toNatClampNeg) ((y3_13).toNatClampNeg) (lt15 (clamp_lt (in_of (N := 4) rfl hn2_4 c27))) (lt15 (clamp_lt (in_of (N := 4) rfl hn3_13 c36))) x38 hd37) ⟨rfl, yk_X3_isLike⟩ wm_2_44 wm_2_45 wm_2_46 wm_1_2 wm_2_47 ⟨Nat.le_of_ble_eq_true rfl, Nat.le_of_ble_eq_true rfl⟩ ⟨Nat.le_of_ble_eq_true rfl, Nat.le_of_ble_eq_true rfl⟩ (cwG (i := (y2_4).toNatClampNeg) (lt15 (clamp_lt (in_of (N := 4) rfl hn2_4 c27)))) rfl rfl rfl hl.1 rfl (Nat.le_of_ble_eq_true rfl) dX5_countLikePairs_30 (fun o w' H locs hp hB => ?_)
              obtain ⟨rfl, bx38, rfl⟩ := hp
              refine W.eq (g2 := F0 m 33 ls [.int x38]) rfl ?_
              refine lv_if_eq (tgt := 39) hx hb dX5_countLikePairs_33 (by decide) (fun c39 => ?_) (fun c39 => ?_)
              · replace hR := ifp c39 hR
                refine lv_iinc (v := y3_13 + 1) (lv' := [(3, .int (y3_13 + 1)), (2, .int y2_4), (1, .int y1_13), (0, .ref (a 0))]) hx hb dX5_countLikePairs_39 hl (k := 0) rfl rfl (by decide) rfl (fun ls hl => ?_)
                refine lv_goto (tgt := 13) hx hb dX5_countLikePairs_42 (by decide) ?_
                exact ih13 (y3_13 + 1) y1_13 _ _ (nn_step hn3_13 c36) (gap_step c36 hμ13) hR hB _ hl
              · replace hR := ifn c39 hR
                refine lv_iinc (v := y1_13 + 1) (lv' := [(1, .int (y1_13 + 1)), (3, .int y3_13), (2, .int y2_4), (0, .ref (a 0))]) hx hb dX5_countLikePairs_36 hl (k := 2) rfl rfl (by decide) rfl (fun ls hl => ?_)
                refine lv_iinc (v := y3_13 + 1) (lv' := [(3, .int (y3_13 + 1)), (1, .int (y1_13 + 1)), (2, .int y2_4), (0, .ref (a 0))]) hx hb dX5_countLikePairs_39 hl (k := 1) rfl rfl (by decide) rfl (fun ls hl => ?_)
                refine lv_goto (tgt := 13) hx hb dX5_countLikePairs_42 (by decide) ?_
                exact ih13 (y3_13 + 1) (y1_13 + 1) _ _ (nn_step hn3_13 c36) (gap_step c36 hμ13) hR hB _ (lv_sub hl [0, 2, 1, 3] rfl)
        exact lp13 _ (y2_4 + 1) y1_4 _ _ (nn_step hn2_4 c27) (Nat.lt_succ_self _) hR hB _ hl
  exact lp4 _ 0 0 _ _ (by decide) (Nat.lt_succ_self _) hR hB _ hl
noncomputable def D_X5_countHouse (r : Nat → Int32) (q : Nat → Int32) (f : Nat → Nat → Int64) (p0 : Int32) : Int32 := (if p0 = 0 then q 2 else (if p0 = 1 then q 3 else (if p0 = 2 then q 4 else bnd1 (D_X5_countLikePairs r q f) (fun (x5 : Int32) => x5))))
theorem D_X5_countHouse_s {r : Nat → Int32} {q : Nat → Int32} {f : Nat → Nat → Int64} {p0 : Int32} : D_X5_countHouse r q f p0 = (if p0 = 0 then q 2 else (if p0 = 1 then q 3 else (if p0 = 2 then q 4 else bnd1 (D_X5_countLikePairs r q f) (fun (x5 : Int32) => x5)))) := rfl
set_option maxHeartbeats 4000000 in
set_option maxRecDepth 100000 in
theorem k_X5_countHouse (κ : Kt) (l : Launch) (a : Nat → Nat) (r q : Nat → Int32) (f : Nat → Nat → Int64) (p0 : Int32)  (o_x : Int32) (hR : D_X5_countHouse r q f p0 = o_x) : CM κ l yX5_countHouse cX5_countHouse 2 (some .int) 4 90 0 0 [.ref (a 0), .int p0] (cw κ a r q f) (fun o w' => o = some (.int o_x) ∧ w' = cw κ a r q f) := by
  refine CM_begin (plainFor_of_name pn_RX5) (Nat.le_of_ble_eq_true rfl) ?_
  intro p e s m args below meth c A Q hX hnm hA3 hQ hB ls hl
  have hx := hX.1.1
  have hb := hX.1.2.1
  have hl : lv_has ls 2 [(0, .ref (a 0)), (1, .int p0)] := hl
  replace hR := (D_X5_countHouse_s).symm.trans hR
  refine lv_iload_n hx hb dX5_countHouse_0 rfl (lv_at hl 1 rfl) ?_
  refine lv_if_ne (tgt := 9) hx hb dX5_countHouse_1 (by decide) (fun c1 => ?_) (fun c1 => ?_)
  · replace hR := ifn c1 hR
    refine lv_iload_n hx hb dX5_countHouse_9 rfl (lv_at hl 1 rfl) ?_
    refine lv_iconst (v := 1) hx hb dX5_countHouse_10 (by decide) ?_
    refine lv_icmp_ne (tgt := 19) hx hb dX5_countHouse_11 (by decide) (fun c2 => ?_) (fun c2 => ?_)
    · replace hR := ifn c2 hR
      refine lv_iload_n hx hb dX5_countHouse_19 rfl (lv_at hl 1 rfl) ?_
      refine lv_iconst (v := 2) hx hb dX5_countHouse_20 (by decide) ?_
      refine lv_icmp_ne (tgt := 31) hx hb dX5_countHouse_21 (by decide) (fun c3 => ?_) (fun c3 => ?_)
      · replace hR := ifn c3 hR
        refine lv_aload_n hx hb dX5_countHouse_31 rfl (lv_at hl 0 rfl) ?_
        obtain ⟨x5, hd4⟩ := ex1 (D_X5_countLikePairs r q f)
        replace hR := bnd1_use hd4 hR
        refine call_V (n := 0) (As := []) (rest := []) hX hB (k_X5_countLikePairs κ l a r q f x5 hd4) ⟨rfl, yk_X5_countLikePairs⟩ wm_2_139 wm_2_141 wp_16 wm_1_1 wm_2_142 ⟨Nat.le_of_ble_eq_true rfl, Nat.le_of_ble_eq_true rfl⟩ ⟨Nat.le_of_ble_eq_true rfl, Nat.le_of_ble_eq_true rfl⟩ cw0 rfl rfl rfl hl.1 rfl (Nat.le_of_ble_eq_true rfl) dX5_countHouse_32 (fun o w' H locs hp hB => ?_)
        obtain ⟨rfl, rfl⟩ := hp
        refine W.eq (g2 := F0 m 35 ls [.int x5]) rfl ?_
        rw [← hQ]
        exact end_i hX hB hA3 rfl rfl (by obtain rfl := hR; exact ⟨rfl, rfl⟩) (Nat.le_of_ble_eq_true rfl) (Nat.le_of_ble_eq_true rfl) dX5_countHouse_35
      · replace hR := ifp c3 hR
        refine lv_aload_n hx hb dX5_countHouse_24 rfl (lv_at hl 0 rfl) ?_
        refine gf hX hB cw0 rfl in5 9 (by decide) wm_1_146 rfl rfl dX5_countHouse_25 ?_
        refine lv_goto (tgt := 35) hx hb dX5_countHouse_28 (by decide) ?_
        rw [← hQ]
        exact end_i hX hB hA3 rfl rfl (by obtain rfl := hR; exact ⟨rfl, rfl⟩) (Nat.le_of_ble_eq_true rfl) (Nat.le_of_ble_eq_true rfl) dX5_countHouse_35
    · replace hR := ifp c2 hR
      refine lv_aload_n hx hb dX5_countHouse_14 rfl (lv_at hl 0 rfl) ?_
      refine gf hX hB cw0 rfl in5 8 (by decide) wm_1_145 rfl rfl dX5_countHouse_15 ?_
      rw [← hQ]
      exact end_i hX hB hA3 rfl rfl (by obtain rfl := hR; exact ⟨rfl, rfl⟩) (Nat.le_of_ble_eq_true rfl) (Nat.le_of_ble_eq_true rfl) dX5_countHouse_18
  · replace hR := ifp c1 hR
    refine lv_aload_n hx hb dX5_countHouse_4 rfl (lv_at hl 0 rfl) ?_
    refine gf hX hB cw0 rfl in5 7 (by decide) wm_1_144 rfl rfl dX5_countHouse_5 ?_
    rw [← hQ]
    exact end_i hX hB hA3 rfl rfl (by obtain rfl := hR; exact ⟨rfl, rfl⟩) (Nat.le_of_ble_eq_true rfl) (Nat.le_of_ble_eq_true rfl) dX5_countHouse_8
noncomputable def D_X5_isSoundByRowSteps (r : Nat → Int32) (q : Nat → Int32) (f : Nat → Nat → Int64) (i : Nat) : Int32 × (Nat → Int32) × (Nat → Int32) × (Nat → Nat → Int64) := bnd3 (D_X3_becomeProduct r q f 5 7 i) (fun (r2 : Nat → Int32) (q4 : Nat → Int32) (f6 : Nat → Nat → Int64) => bnd1 (D_X3_isLike r2 q4 f6 5 6) (fun (x8 : Int32) => (if x8 = 0 then (0, r2, q4, f6) else bnd1 (D_X0_findRank r2 q4 f6 i) (fun (x11 : Int32) => bnd1 (D_X4_countFilledRows r2 q4 f6) (fun (x13 : Int32) => (if x11 = x13 then (if (r2 (2 * i)) = (r2 (2 * i + 1)) then bnd1 (D_X0_byFirstRow r2 q4 f6 i) (fun (x17 : Int64) => bnd1 (D_X4_findDeterminant r2 q4 f6) (fun (x19 : Int64) => (if (lg_cmp x17 x19) = 0 then (1, r2, q4, f6) else (0, r2, q4, f6)))) else (1, r2, q4, f6)) else (0, r2, q4, f6)))))))
theorem D_X5_isSoundByRowSteps_s {r : Nat → Int32} {q : Nat → Int32} {f : Nat → Nat → Int64} {i : Nat} : D_X5_isSoundByRowSteps r q f i = bnd3 (D_X3_becomeProduct r q f 5 7 i) (fun (r2 : Nat → Int32) (q4 : Nat → Int32) (f6 : Nat → Nat → Int64) => bnd1 (D_X3_isLike r2 q4 f6 5 6) (fun (x8 : Int32) => (if x8 = 0 then (0, r2, q4, f6) else bnd1 (D_X0_findRank r2 q4 f6 i) (fun (x11 : Int32) => bnd1 (D_X4_countFilledRows r2 q4 f6) (fun (x13 : Int32) => (if x11 = x13 then (if (r2 (2 * i)) = (r2 (2 * i + 1)) then bnd1 (D_X0_byFirstRow r2 q4 f6 i) (fun (x17 : Int64) => bnd1 (D_X4_findDeterminant r2 q4 f6) (fun (x19 : Int64) => (if (lg_cmp x17 x19) = 0 then (1, r2, q4, f6) else (0, r2, q4, f6)))) else (1, r2, q4, f6)) else (0, r2, q4, f6))))))) := rfl
set_option maxHeartbeats 4000000 in
set_option maxRecDepth 100000 in
theorem k_X5_isSoundByRowSteps (κ : Kt) (l : Launch) (a : Nat → Nat) (r q : Nat → Int32) (f : Nat → Nat → Int64) (i : Nat) (hi : i < 15) (hok : okr r) (o_x : Int32) (o_r : Nat → Int32) (o_q : Nat → Int32) (o_f : Nat → Nat → Int64) (hR : D_X5_isSoundByRowSteps r q f i = (o_x, o_r, o_q, o_f)) : CM κ l yX5_isSoundByRowSteps cX5_isSoundByRowSteps 2 (some .boolean) 7 193 0 0 [.ref (a 0), .ref (a (6 + 2 * i))] (cw κ a r q f) (fun o w' => o = some (.int o_x) ∧ (o_x = 0 ∨ o_x = 1) ∧ (okr r → okr o_r) ∧ o_q 4 = q 4 ∧ w' = cw κ a o_r o_q o_f) := by
  refine CM_begin (plainFor_of_name pn_RX5) (Nat.le_of_ble_eq_true rfl) ?_
  intro p e s m args below meth c A Q hX hnm hA3 hQ hB ls hl
  have hx := hX.1.1
  have hb := hX.1.2.1
  have hl : lv_has ls 2 [(0, .ref (a 0)), (1, .ref (a (6 + 2 * i)))] := hl
  replace hR := (D_X5_isSoundByRowSteps_s).symm.trans hR
  refine lv_aload_n hx hb dX5_isSoundByRowSteps_0 rfl (lv_at hl 0 rfl) ?_
  refine gf hX hB cw0 rfl in5 2 (by decide) wm_1_139 rfl rfl dX5_isSoundByRowSteps_1 ?_
  refine lv_aload_n hx hb dX5_isSoundByRowSteps_4 rfl (lv_at hl 0 rfl) ?_
  refine gf hX hB cw0 rfl in5 3 (by decide) wm_1_140 rfl rfl dX5_isSoundByRowSteps_5 ?_
  refine gfN hX hB cw2 rfl in4 1 (by decide) wn_1_77 rfl rfl dX5_isSoundByRowSteps_8 ?_
  refine lv_aload_n hx hb dX5_isSoundByRowSteps_11 rfl (lv_at hl 1 rfl) ?_
  obtain ⟨r2, q4, f6, hd1⟩ := ex3 (D_X3_becomeProduct r q f 5 7 i)
  replace hR := bnd3_use hd1 hR
  refine call_V (n := 2) (As := [.ref (a 20), .ref (a (6 + 2 * i))]) (rest := []) hX hB (k_X3_becomeProduct κ l a r q f 5 7 i (by decide) (by decide) hi r2 q4 f6 hd1) ⟨rfl, yk_X3_becomeProduct⟩ wm_2_40 wm_2_41 wm_2_42 wm_1_2 wm_2_43 ⟨Nat.le_of_ble_eq_true rfl, Nat.le_of_ble_eq_true rfl⟩ ⟨Nat.le_of_ble_eq_true rfl, Nat.le_of_ble_eq_true rfl⟩ (cwG (i := 5) (by decide)) rfl rfl rfl hl.1 rfl (Nat.le_of_ble_eq_true rfl) dX5_isSoundByRowSteps_12 (fun o w' H locs hp hB => ?_)
  obtain ⟨rfl, ho3, hq5, rfl⟩ := hp
  refine W.eq (g2 := F0 m 15 ls []) rfl ?_
  refine lv_aload_n hx hb dX5_isSoundByRowSteps_15 rfl (lv_at hl 0 rfl) ?_
  refine gf hX hB cw0 rfl in5 2 (by decide) wm_1_139 rfl rfl dX5_isSoundByRowSteps_16 ?_
  refine lv_aload_n hx hb dX5_isSoundByRowSteps_19 rfl (lv_at hl 0 rfl) ?_
  refine gf hX hB cw0 rfl in5 3 (by decide) wm_1_140 rfl rfl dX5_isSoundByRowSteps_20 ?_
  refine gfN hX hB cw2 rfl in4 0 (by decide) wn_1_75 rfl rfl dX5_isSoundByRowSteps_23 ?_
  obtain ⟨x8, hd7⟩ := ex1 (D_X3_isLike r2 q4 f6 5 6)
  replace hR := bnd1_use hd7 hR
  refine call_V (n := 1) (As := [.ref (a 18)]) (rest := []) hX hB (k_X3_isLike κ l a r2 q4 f6 5 6 (by decide) (by decide) x8 hd7) ⟨rfl, yk_X3_isLike⟩ wm_2_44 wm_2_45 wm_2_46 wm_1_2 wm_2_47 ⟨Nat.le_of_ble_eq_true rfl, Nat.le_of_ble_eq_true rfl⟩ ⟨Nat.le_of_ble_eq_true rfl, Nat.le_of_ble_eq_true rfl⟩ (cwG (i := 5) (by decide)) rfl rfl rfl hl.1 rfl (Nat.le_of_ble_eq_true rfl) dX5_isSoundByRowSteps_26 (fun o w' H locs hp hB => ?_)
  obtain ⟨rfl, bx8, rfl⟩ := hp
  refine W.eq (g2 := F0 m 29 ls [.int x8]) rfl ?_
  refine lv_if_eq (tgt := 76) hx hb dX5_isSoundByRowSteps_29 (by decide) (fun c9 => ?_) (fun c9 => ?_)
  · replace hR := ifp c9 hR
    refine lv_iconst (v := 0) hx hb dX5_isSoundByRowSteps_76 (by decide) ?_
    rw [← hQ]
    exact end_i hX hB hA3 rfl rfl (by obtain ⟨rfl, rfl, rfl, rfl⟩ := pr4 hR; exact ⟨rfl, Or.inl rfl, (fun h => ho3 ((fun h => h) h)), (hq5.trans rfl), rfl⟩) (Nat.le_of_ble_eq_true rfl) (Nat.le_of_ble_eq_true rfl) dX5_isSoundByRowSteps_77
  · replace hR := ifn c9 hR
    refine lv_aload_n hx hb dX5_isSoundByRowSteps_32 rfl (lv_at hl 1 rfl) ?_
    obtain ⟨x11, hd10⟩ := ex1 (D_X0_findRank r2 q4 f6 i)
    replace hR := bnd1_use hd10 hR
    refine call_S (n := 1) (As := [.ref (a (6 + 2 * i))]) (rest := []) hX hB (k_X0_findRank κ l a r2 q4 f6 i hi ((fun h => ho3 ((fun h => h) h)) hok) x11 hd10) yk_X0_findRank wm_2_52 wm_2_53 wm_1_29 wm_2_54 ⟨Nat.le_of_ble_eq_true rfl, Nat.le_of_ble_eq_true rfl⟩ ⟨Nat.le_of_ble_eq_true rfl, Nat.le_of_ble_eq_true rfl⟩ rfl hl.1 rfl (Nat.le_of_ble_eq_true rfl) dX5_isSoundByRowSteps_33 (fun o w' H locs hp hB => ?_)
    obtain ⟨rfl, rfl⟩ := hp
    refine W.eq (g2 := F0 m 36 ls [.int x11]) rfl ?_
    refine lv_aload_n hx hb dX5_isSoundByRowSteps_36 rfl (lv_at hl 0 rfl) ?_
    refine gf hX hB cw0 rfl in5 3 (by decide) wm_1_140 rfl rfl dX5_isSoundByRowSteps_37 ?_
    obtain ⟨x13, hd12⟩ := ex1 (D_X4_countFilledRows r2 q4 f6)
    replace hR := bnd1_use hd12 hR
    refine call_V (n := 0) (As := []) (rest := [.int x11]) hX hB (k_X4_countFilledRows κ l a r2 q4 f6 x13 hd12) ⟨rfl, yk_X4_countFilledRows⟩ wm_2_63 wm_2_64 wm_2_65 wm_1_3 wm_2_66 ⟨Nat.le_of_ble_eq_true rfl, Nat.le_of_ble_eq_true rfl⟩ ⟨Nat.le_of_ble_eq_true rfl, Nat.le_of_ble_eq_true rfl⟩ cw2 rfl rfl rfl hl.1 rfl (Nat.le_of_ble_eq_true rfl) dX5_isSoundByRowSteps_40 (fun o w' H locs hp hB => ?_)
    obtain ⟨rfl, rfl⟩ := hp
    refine W.eq (g2 := F0 m 43 ls [.int x13, .int x11]) rfl ?_
    refine lv_icmp_ne (tgt := 76) hx hb dX5_isSoundByRowSteps_43 (by decide) (fun c14 => ?_) (fun c14 => ?_)
    · replace hR := ifn c14 hR
      refine lv_iconst (v := 0) hx hb dX5_isSoundByRowSteps_76 (by decide) ?_
      rw [← hQ]
      exact end_i hX hB hA3 rfl rfl (by obtain ⟨rfl, rfl, rfl, rfl⟩ := pr4 hR; exact ⟨rfl, Or.inl rfl, (fun h => ho3 ((fun h => h) h)), (hq5.trans rfl), rfl⟩) (Nat.le_of_ble_eq_true rfl) (Nat.le_of_ble_eq_true rfl) dX5_isSoundByRowSteps_77
    · replace hR := ifp c14 hR
      refine lv_aload_n hx hb dX5_isSoundByRowSteps_46 rfl (lv_at hl 1 rfl) ?_
      refine gfN hX hB (cwG (i := i) hi) rfl in3 1 (by decide) wn_1_51 rfl rfl dX5_isSoundByRowSteps_47 ?_
      refine lv_aload_n hx hb dX5_isSoundByRowSteps_50 rfl (lv_at hl 1 rfl) ?_
      refine gfN hX hB (cwG (i := i) hi) rfl in3 2 (by decide) wn_1_57 rfl rfl dX5_isSoundByRowSteps_51 ?_
      refine lv_icmp_ne (tgt := 72) hx hb dX5_isSoundByRowSteps_54 (by decide) (fun c15 => ?_) (fun c15 => ?_)
      · replace hR := ifn c15 hR
        refine lv_iconst (v := 1) hx hb dX5_isSoundByRowSteps_72 (by decide) ?_
        refine lv_goto (tgt := 77) hx hb dX5_isSoundByRowSteps_73 (by decide) ?_
        rw [← hQ]
        exact end_i hX hB hA3 rfl rfl (by obtain ⟨rfl, rfl, rfl, rfl⟩ := pr4 hR; exact ⟨rfl, Or.inr rfl, (fun h => ho3 ((fun h => h) h)), (hq5.trans rfl), rfl⟩) (Nat.le_of_ble_eq_true rfl) (Nat.le_of_ble_eq_true rfl) dX5_isSoundByRowSteps_77
      · replace hR := ifp c15 hR
        refine lv_aload_n hx hb dX5_isSoundByRowSteps_57 rfl (lv_at hl 1 rfl) ?_
        obtain ⟨x17, hd16⟩ := ex1 (D_X0_byFirstRow r2 q4 f6 i)
        replace hR := bnd1_use hd16 hR
        refine call_S (n := 1) (As := [.ref (a (6 + 2 * i))]) (rest := []) hX hB (k_X0_byFirstRow κ l a r2 q4 f6 i hi x17 hd16) yk_X0_byFirstRow wm_1_180 wm_1_181 wm_1_29 wm_1_182 ⟨Nat.le_of_ble_eq_true rfl, Nat.le_of_ble_eq_true rfl⟩ ⟨Nat.le_of_ble_eq_true rfl, Nat.le_of_ble_eq_true rfl⟩ rfl hl.1 rfl (Nat.le_of_ble_eq_true rfl) dX5_isSoundByRowSteps_58 (fun o w' H locs hp hB => ?_)
        obtain ⟨rfl, rfl⟩ := hp
        refine W.eq (g2 := F0 m 61 ls [.long x17]) rfl ?_
        refine lv_aload_n hx hb dX5_isSoundByRowSteps_61 rfl (lv_at hl 0 rfl) ?_
        refine gf hX hB cw0 rfl in5 3 (by decide) wm_1_140 rfl rfl dX5_isSoundByRowSteps_62 ?_
        obtain ⟨x19, hd18⟩ := ex1 (D_X4_findDeterminant r2 q4 f6)
        replace hR := bnd1_use hd18 hR
        refine call_V (n := 0) (As := []) (rest := [.long x17]) hX hB (k_X4_findDeterminant κ l a r2 q4 f6 x19 hd18) ⟨rfl, yk_X4_findDeterminant⟩ wm_2_67 wm_2_68 wm_2_69 wm_1_3 wm_2_70 ⟨Nat.le_of_ble_eq_true rfl, Nat.le_of_ble_eq_true rfl⟩ ⟨Nat.le_of_ble_eq_true rfl, Nat.le_of_ble_eq_true rfl⟩ cw2 rfl rfl rfl hl.1 rfl (Nat.le_of_ble_eq_true rfl) dX5_isSoundByRowSteps_65 (fun o w' H locs hp hB => ?_)
        obtain ⟨rfl, rfl⟩ := hp
        refine W.eq (g2 := F0 m 68 ls [.long x19, .long x17]) rfl ?_
        refine W.lcmp hx hb dX5_isSoundByRowSteps_68 ?_
        refine lv_if_ne (tgt := 76) hx hb dX5_isSoundByRowSteps_69 (by decide) (fun c20 => ?_) (fun c20 => ?_)
        · replace hR := ifn c20 hR
          refine lv_iconst (v := 0) hx hb dX5_isSoundByRowSteps_76 (by decide) ?_
          rw [← hQ]
          exact end_i hX hB hA3 rfl rfl (by obtain ⟨rfl, rfl, rfl, rfl⟩ := pr4 hR; exact ⟨rfl, Or.inl rfl, (fun h => ho3 ((fun h => h) h)), (hq5.trans rfl), rfl⟩) (Nat.le_of_ble_eq_true rfl) (Nat.le_of_ble_eq_true rfl) dX5_isSoundByRowSteps_77
        · replace hR := ifp c20 hR
          refine lv_iconst (v := 1) hx hb dX5_isSoundByRowSteps_72 (by decide) ?_
          refine lv_goto (tgt := 77) hx hb dX5_isSoundByRowSteps_73 (by decide) ?_
          rw [← hQ]
          exact end_i hX hB hA3 rfl rfl (by obtain ⟨rfl, rfl, rfl, rfl⟩ := pr4 hR; exact ⟨rfl, Or.inr rfl, (fun h => ho3 ((fun h => h) h)), (hq5.trans rfl), rfl⟩) (Nat.le_of_ble_eq_true rfl) (Nat.le_of_ble_eq_true rfl) dX5_isSoundByRowSteps_77
noncomputable def D_X5_isSoundBySteps_54 (i : Nat) (r8 : Nat → Int32) (q10 : Nat → Int32) (f12 : Nat → Nat → Int64) (nn : Nat) : Int32 → Int32 × (Nat → Int32) × (Nat → Int32) × (Nat → Nat → Int64) := @Nat.rec (fun _ => Int32 → Int32 × (Nat → Int32) × (Nat → Int32) × (Nat → Nat → Int64)) (fun _ => default) (fun _ lb54 (y2_54 : Int32) => (if (r8 (2 * i)) ≤ y2_54 then (1, r8, q10, f12) else (if (r8 (2 * i + 1)) ≤ y2_54 then (1, r8, q10, f12) else bnd1 (D_X0_findDivisor r8 q10 f12 i y2_54) (fun (x37 : Int64) => bnd1 (D_X3_get r8 q10 f12 8 y2_54 y2_54) (fun (x39 : Int64) => bnd1 (D_X0_findDivisor r8 q10 f12 i (y2_54 + 1)) (fun (x41 : Int64) => (if (lg_cmp (x37 * x39) x41) = 0 then (lb54 (y2_54 + 1)) else (0, r8, q10, f12)))))))) nn
theorem D_X5_isSoundBySteps_54_s {i : Nat} {r8 : Nat → Int32} {q10 : Nat → Int32} {f12 : Nat → Nat → Int64} {nn : Nat} {y2_54 : Int32} : D_X5_isSoundBySteps_54 i r8 q10 f12 (nn + 1) y2_54 = (if (r8 (2 * i)) ≤ y2_54 then (1, r8, q10, f12) else (if (r8 (2 * i + 1)) ≤ y2_54 then (1, r8, q10, f12) else bnd1 (D_X0_findDivisor r8 q10 f12 i y2_54) (fun (x37 : Int64) => bnd1 (D_X3_get r8 q10 f12 8 y2_54 y2_54) (fun (x39 : Int64) => bnd1 (D_X0_findDivisor r8 q10 f12 i (y2_54 + 1)) (fun (x41 : Int64) => (if (lg_cmp (x37 * x39) x41) = 0 then ((D_X5_isSoundBySteps_54 i r8 q10 f12 nn) (y2_54 + 1)) else (0, r8, q10, f12))))))) := rfl
noncomputable def D_X5_isSoundBySteps (r : Nat → Int32) (q : Nat → Int32) (f : Nat → Nat → Int64) (i : Nat) : Int32 × (Nat → Int32) × (Nat → Int32) × (Nat → Nat → Int64) := bnd3 (D_X3_becomeProduct r q f 4 9 i) (fun (r2 : Nat → Int32) (q4 : Nat → Int32) (f6 : Nat → Nat → Int64) => bnd3 (D_X3_becomeProduct r2 q4 f6 5 4 10) (fun (r8 : Nat → Int32) (q10 : Nat → Int32) (f12 : Nat → Nat → Int64) => bnd1 (D_X3_isLike r8 q10 f12 5 8) (fun (x14 : Int32) => (if x14 = 0 then (0, r8, q10, f12) else (D_X5_isSoundBySteps_54 i r8 q10 f12 (gap (r8 (2 * i)) 0 + 1) 0)))))
theorem D_X5_isSoundBySteps_s {r : Nat → Int32} {q : Nat → Int32} {f : Nat → Nat → Int64} {i : Nat} : D_X5_isSoundBySteps r q f i = bnd3 (D_X3_becomeProduct r q f 4 9 i) (fun (r2 : Nat → Int32) (q4 : Nat → Int32) (f6 : Nat → Nat → Int64) => bnd3 (D_X3_becomeProduct r2 q4 f6 5 4 10) (fun (r8 : Nat → Int32) (q10 : Nat → Int32) (f12 : Nat → Nat → Int64) => bnd1 (D_X3_isLike r8 q10 f12 5 8) (fun (x14 : Int32) => (if x14 = 0 then (0, r8, q10, f12) else (D_X5_isSoundBySteps_54 i r8 q10 f12 (gap (r8 (2 * i)) 0 + 1) 0))))) := rfl
set_option maxHeartbeats 4000000 in
set_option maxRecDepth 100000 in
theorem k_X5_isSoundBySteps (κ : Kt) (l : Launch) (a : Nat → Nat) (r q : Nat → Int32) (f : Nat → Nat → Int64) (i : Nat) (hi : i < 15) (o_x : Int32) (o_r : Nat → Int32) (o_q : Nat → Int32) (o_f : Nat → Nat → Int64) (hR : D_X5_isSoundBySteps r q f i = (o_x, o_r, o_q, o_f)) : CM κ l yX5_isSoundBySteps cX5_isSoundBySteps 5 (some .boolean) 6 171 0 0 [.ref (a 0), .ref (a (6 + 2 * i))] (cw κ a r q f) (fun o w' => o = some (.int o_x) ∧ (o_x = 0 ∨ o_x = 1) ∧ (okr r → okr o_r) ∧ o_q 4 = q 4 ∧ w' = cw κ a o_r o_q o_f) := by
  refine CM_begin (plainFor_of_name pn_RX5) (Nat.le_of_ble_eq_true rfl) ?_
  intro p e s m args below meth c A Q hX hnm hA3 hQ hB ls hl
  have hx := hX.1.1
  have hb := hX.1.2.1
  have hl : lv_has ls 5 [(0, .ref (a 0)), (1, .ref (a (6 + 2 * i)))] := hl
  replace hR := (D_X5_isSoundBySteps_s).symm.trans hR
  refine lv_aload_n hx hb dX5_isSoundBySteps_0 rfl (lv_at hl 0 rfl) ?_
  refine gf hX hB cw0 rfl in5 1 (by decide) wm_1_138 rfl rfl dX5_isSoundBySteps_1 ?_
  refine lv_aload_n hx hb dX5_isSoundBySteps_4 rfl (lv_at hl 0 rfl) ?_
  refine gf hX hB cw0 rfl in5 4 (by decide) wm_1_141 rfl rfl dX5_isSoundBySteps_5 ?_
  refine gfN hX hB cw3 rfl in1 1 (by decide) wn_1_100 rfl rfl dX5_isSoundBySteps_8 ?_
  refine lv_aload_n hx hb dX5_isSoundBySteps_11 rfl (lv_at hl 1 rfl) ?_
  obtain ⟨r2, q4, f6, hd1⟩ := ex3 (D_X3_becomeProduct r q f 4 9 i)
  replace hR := bnd3_use hd1 hR
  refine call_V (n := 2) (As := [.ref (a 24), .ref (a (6 + 2 * i))]) (rest := []) hX hB (k_X3_becomeProduct κ l a r q f 4 9 i (by decide) (by decide) hi r2 q4 f6 hd1) ⟨rfl, yk_X3_becomeProduct⟩ wm_2_40 wm_2_41 wm_2_42 wm_1_2 wm_2_43 ⟨Nat.le_of_ble_eq_true rfl, Nat.le_of_ble_eq_true rfl⟩ ⟨Nat.le_of_ble_eq_true rfl, Nat.le_of_ble_eq_true rfl⟩ (cwG (i := 4) (by decide)) rfl rfl rfl hl.1 rfl (Nat.le_of_ble_eq_true rfl) dX5_isSoundBySteps_12 (fun o w' H locs hp hB => ?_)
  obtain ⟨rfl, ho3, hq5, rfl⟩ := hp
  refine W.eq (g2 := F0 m 15 ls []) rfl ?_
  refine lv_aload_n hx hb dX5_isSoundBySteps_15 rfl (lv_at hl 0 rfl) ?_
  refine gf hX hB cw0 rfl in5 2 (by decide) wm_1_139 rfl rfl dX5_isSoundBySteps_16 ?_
  refine lv_aload_n hx hb dX5_isSoundBySteps_19 rfl (lv_at hl 0 rfl) ?_
  refine gf hX hB cw0 rfl in5 1 (by decide) wm_1_138 rfl rfl dX5_isSoundBySteps_20 ?_
  refine lv_aload_n hx hb dX5_isSoundBySteps_23 rfl (lv_at hl 0 rfl) ?_
  refine gf hX hB cw0 rfl in5 4 (by decide) wm_1_141 rfl rfl dX5_isSoundBySteps_24 ?_
  refine gfN hX hB cw3 rfl in1 2 (by decide) wn_1_103 rfl rfl dX5_isSoundBySteps_27 ?_
  obtain ⟨r8, q10, f12, hd7⟩ := ex3 (D_X3_becomeProduct r2 q4 f6 5 4 10)
  replace hR := bnd3_use hd7 hR
  refine call_V (n := 2) (As := [.ref (a 14), .ref (a 26)]) (rest := []) hX hB (k_X3_becomeProduct κ l a r2 q4 f6 5 4 10 (by decide) (by decide) (by decide) r8 q10 f12 hd7) ⟨rfl, yk_X3_becomeProduct⟩ wm_2_40 wm_2_41 wm_2_42 wm_1_2 wm_2_43 ⟨Nat.le_of_ble_eq_true rfl, Nat.le_of_ble_eq_true rfl⟩ ⟨Nat.le_of_ble_eq_true rfl, Nat.le_of_ble_eq_true rfl⟩ (cwG (i := 5) (by decide)) rfl rfl rfl hl.1 rfl (Nat.le_of_ble_eq_true rfl) dX5_isSoundBySteps_30 (fun o w' H locs hp hB => ?_)
  obtain ⟨rfl, ho9, hq11, rfl⟩ := hp
  refine W.eq (g2 := F0 m 33 ls []) rfl ?_
  refine lv_aload_n hx hb dX5_isSoundBySteps_33 rfl (lv_at hl 0 rfl) ?_
  refine gf hX hB cw0 rfl in5 2 (by decide) wm_1_139 rfl rfl dX5_isSoundBySteps_34 ?_
  refine lv_aload_n hx hb dX5_isSoundBySteps_37 rfl (lv_at hl 0 rfl) ?_
  refine gf hX hB cw0 rfl in5 4 (by decide) wm_1_141 rfl rfl dX5_isSoundBySteps_38 ?_
  refine gfN hX hB cw3 rfl in1 0 (by decide) wn_1_97 rfl rfl dX5_isSoundBySteps_41 ?_
  obtain ⟨x14, hd13⟩ := ex1 (D_X3_isLike r8 q10 f12 5 8)
  replace hR := bnd1_use hd13 hR
  refine call_V (n := 1) (As := [.ref (a 22)]) (rest := []) hX hB (k_X3_isLike κ l a r8 q10 f12 5 8 (by decide) (by decide) x14 hd13) ⟨rfl, yk_X3_isLike⟩ wm_2_44 wm_2_45 wm_2_46 wm_1_2 wm_2_47 ⟨Nat.le_of_ble_eq_true rfl, Nat.le_of_ble_eq_true rfl⟩ ⟨Nat.le_of_ble_eq_true rfl, Nat.le_of_ble_eq_true rfl⟩ (cwG (i := 5) (by decide)) rfl rfl rfl hl.1 rfl (Nat.le_of_ble_eq_true rfl) dX5_isSoundBySteps_44 (fun o w' H locs hp hB => ?_)
  obtain ⟨rfl, bx14, rfl⟩ := hp
  refine W.eq (g2 := F0 m 47 ls [.int x14]) rfl ?_
  refine lv_if_ne (tgt := 52) hx hb dX5_isSoundBySteps_47 (by decide) (fun c15 => ?_) (fun c15 => ?_)
  · replace hR := ifn c15 hR
    refine lv_iconst (v := 0) hx hb dX5_isSoundBySteps_52 (by decide) ?_
    refine lv_istore_n (lv' := [(2, .int 0), (0, .ref (a 0)), (1, .ref (a (6 + 2 * i)))]) hx hb dX5_isSoundBySteps_53 rfl hl (by decide) rfl (fun ls hl => ?_)
    have lp54 : ∀ (nn54 : Nat) (y2_54 : Int32) (H : Heap) (locs : List Loc), gap (r8 (2 * i)) y2_54 < nn54 → D_X5_isSoundBySteps_54 i r8 q10 f12 nn54 y2_54 = (o_x, o_r, o_q, o_f) → Bd κ A s (cw κ a r8 q10 f12) H locs → ∀ ls : Array Slot, lv_has ls 5 [(2, .int y2_54), (0, .ref (a 0)), (1, .ref (a (6 + 2 * i)))] → W p l e (Rm 6 171 0 0) s m args below meth c H locs 0 0 Q (F0 m 54 ls []) := by
      intro nn54
      induction nn54 with
      | zero => intro y2_54 H locs hμ; exact absurd hμ (Nat.not_lt_zero _)
      | succ nn54 ih54 =>
        intro y2_54 H locs hμ54 hR hB ls hl
        replace hR := (D_X5_isSoundBySteps_54_s).symm.trans hR
        refine lv_iload_n hx hb dX5_isSoundBySteps_54 rfl (lv_at hl 0 rfl) ?_
        refine lv_aload_n hx hb dX5_isSoundBySteps_55 rfl (lv_at hl 2 rfl) ?_
        refine gfN hX hB (cwG (i := i) hi) rfl in3 1 (by decide) wn_1_51 rfl rfl dX5_isSoundBySteps_56 ?_
        refine lv_icmp_ge (tgt := 109) hx hb dX5_isSoundBySteps_59 (by decide) (fun c34 => ?_) (fun c34 => ?_)
        · replace hR := ifp c34 hR
          refine lv_iconst (v := 1) hx hb dX5_isSoundBySteps_109 (by decide) ?_
          rw [← hQ]
          exact end_i hX hB hA3 rfl rfl (by obtain ⟨rfl, rfl, rfl, rfl⟩ := pr4 hR; exact ⟨rfl, Or.inr rfl, (fun h => ho9 ((fun h => ho3 ((fun h => h) h)) h)), (hq11.trans (hq5.trans rfl)), rfl⟩) (Nat.le_of_ble_eq_true rfl) (Nat.le_of_ble_eq_true rfl) dX5_isSoundBySteps_110
        · replace hR := ifn c34 hR
          refine lv_iload_n hx hb dX5_isSoundBySteps_62 rfl (lv_at hl 0 rfl) ?_
          refine lv_aload_n hx hb dX5_isSoundBySteps_63 rfl (lv_at hl 2 rfl) ?_
          refine gfN hX hB (cwG (i := i) hi) rfl in3 2 (by decide) wn_1_57 rfl rfl dX5_isSoundBySteps_64 ?_
          refine lv_icmp_ge (tgt := 109) hx hb dX5_isSoundBySteps_67 (by decide) (fun c35 => ?_) (fun c35 => ?_)
          · replace hR := ifp c35 hR
            refine lv_iconst (v := 1) hx hb dX5_isSoundBySteps_109 (by decide) ?_
            rw [← hQ]
            exact end_i hX hB hA3 rfl rfl (by obtain ⟨rfl, rfl, rfl, rfl⟩ := pr4 hR; exact ⟨rfl, Or.inr rfl, (fun h => ho9 ((fun h => ho3 ((fun h => h) h)) h)), (hq11.trans (hq5.trans rfl)), rfl⟩) (Nat.le_of_ble_eq_true rfl) (Nat.le_of_ble_eq_true rfl) dX5_isSoundBySteps_110
          · replace hR := ifn c35 hR
            refine lv_aload_n hx hb dX5_isSoundBySteps_70 rfl (lv_at hl 2 rfl) ?_
            refine lv_iload_n hx hb dX5_isSoundBySteps_71 rfl (lv_at hl 0 rfl) ?_
            obtain ⟨x37, hd36⟩ := ex1 (D_X0_findDivisor r8 q10 f12 i y2_54)
            replace hR := bnd1_use hd36 hR
            refine call_S (n := 2) (As := [.ref (a (6 + 2 * i)), .int y2_54]) (rest := []) hX hB (k_X0_findDivisor κ l a r8 q10 f12 i y2_54 hi x37 hd36) yk_X0_findDivisor wm_2_122 wm_2_56 wm_1_29 wm_2_57 ⟨Nat.le_of_ble_eq_true rfl, Nat.le_of_ble_eq_true rfl⟩ ⟨Nat.le_of_ble_eq_true rfl, Nat.le_of_ble_eq_true rfl⟩ rfl hl.1 rfl (Nat.le_of_ble_eq_true rfl) dX5_isSoundBySteps_72 (fun o w' H locs hp hB => ?_)
            obtain ⟨rfl, rfl⟩ := hp
            refine W.eq (g2 := F0 m 75 ls [.long x37]) rfl ?_
            refine lv_lstore_n (lv' := [(3, .long x37), (2, .int y2_54), (0, .ref (a 0)), (1, .ref (a (6 + 2 * i)))]) hx hb dX5_isSoundBySteps_75 rfl hl (by decide) rfl (fun ls hl => ?_)
            refine lv_lload_n hx hb dX5_isSoundBySteps_76 rfl (lv_at hl 0 rfl) ?_
            refine lv_aload_n hx hb dX5_isSoundBySteps_77 rfl (lv_at hl 2 rfl) ?_
            refine gf hX hB cw0 rfl in5 4 (by decide) wm_1_141 rfl rfl dX5_isSoundBySteps_78 ?_
            refine gfN hX hB cw3 rfl in1 0 (by decide) wn_1_97 rfl rfl dX5_isSoundBySteps_81 ?_
            refine lv_iload_n hx hb dX5_isSoundBySteps_84 rfl (lv_at hl 1 rfl) ?_
            refine lv_iload_n hx hb dX5_isSoundBySteps_85 rfl (lv_at hl 1 rfl) ?_
            obtain ⟨x39, hd38⟩ := ex1 (D_X3_get r8 q10 f12 8 y2_54 y2_54)
            replace hR := bnd1_use hd38 hR
            refine call_V (n := 2) (As := [.int y2_54, .int y2_54]) (rest := [.long x37]) hX hB (k_X3_get κ l a r8 q10 f12 8 y2_54 y2_54 (by decide) x39 hd38) ⟨rfl, yk_X3_get⟩ wm_2_123 wm_1_187 wm_1_188 wm_1_2 wm_1_189 ⟨Nat.le_of_ble_eq_true rfl, Nat.le_of_ble_eq_true rfl⟩ ⟨Nat.le_of_ble_eq_true rfl, Nat.le_of_ble_eq_true rfl⟩ (cwG (i := 8) (by decide)) rfl rfl rfl hl.1 rfl (Nat.le_of_ble_eq_true rfl) dX5_isSoundBySteps_86 (fun o w' H locs hp hB => ?_)
            obtain ⟨rfl, rfl⟩ := hp
            refine W.eq (g2 := F0 m 89 ls [.long x39, .long x37]) rfl ?_
            refine lv_lmul hx hb dX5_isSoundBySteps_89 ?_
            refine lv_aload_n hx hb dX5_isSoundBySteps_90 rfl (lv_at hl 3 rfl) ?_
            refine lv_iload_n hx hb dX5_isSoundBySteps_91 rfl (lv_at hl 1 rfl) ?_
            refine lv_iconst (v := 1) hx hb dX5_isSoundBySteps_92 (by decide) ?_
            refine lv_iadd hx hb dX5_isSoundBySteps_93 ?_
            obtain ⟨x41, hd40⟩ := ex1 (D_X0_findDivisor r8 q10 f12 i (y2_54 + 1))
            replace hR := bnd1_use hd40 hR
            refine call_S (n := 2) (As := [.ref (a (6 + 2 * i)), .int (y2_54 + 1)]) (rest := [.long (x37 * x39)]) hX hB (k_X0_findDivisor κ l a r8 q10 f12 i (y2_54 + 1) hi x41 hd40) yk_X0_findDivisor wm_2_122 wm_2_56 wm_1_29 wm_2_57 ⟨Nat.le_of_ble_eq_true rfl, Nat.le_of_ble_eq_true rfl⟩ ⟨Nat.le_of_ble_eq_true rfl, Nat.le_of_ble_eq_true rfl⟩ rfl hl.1 rfl (Nat.le_of_ble_eq_true rfl) dX5_isSoundBySteps_94 (fun o w' H locs hp hB => ?_)
            obtain ⟨rfl, rfl⟩ := hp
            refine W.eq (g2 := F0 m 97 ls [.long x41, .long (x37 * x39)]) rfl ?_
            refine W.lcmp hx hb dX5_isSoundBySteps_97 ?_
            refine lv_if_eq (tgt := 103) hx hb dX5_isSoundBySteps_98 (by decide) (fun c42 => ?_) (fun c42 => ?_)
            · replace hR := ifp c42 hR
              refine lv_iinc (v := y2_54 + 1) (lv' := [(2, .int (y2_54 + 1)), (3, .long x37), (0, .ref (a 0)), (1, .ref (a (6 + 2 * i)))]) hx hb dX5_isSoundBySteps_103 hl (k := 1) rfl rfl (by decide) rfl (fun ls hl => ?_)
              refine lv_goto (tgt := 54) hx hb dX5_isSoundBySteps_106 (by decide) ?_
              exact ih54 (y2_54 + 1) _ _  (gap_step c34 hμ54) hR hB _ (lv_sub hl [0, 2, 3] rfl)
            · replace hR := ifn c42 hR
              refine lv_iconst (v := 0) hx hb dX5_isSoundBySteps_101 (by decide) ?_
              rw [← hQ]
              exact end_i hX hB hA3 rfl rfl (by obtain ⟨rfl, rfl, rfl, rfl⟩ := pr4 hR; exact ⟨rfl, Or.inl rfl, (fun h => ho9 ((fun h => ho3 ((fun h => h) h)) h)), (hq11.trans (hq5.trans rfl)), rfl⟩) (Nat.le_of_ble_eq_true rfl) (Nat.le_of_ble_eq_true rfl) dX5_isSoundBySteps_102
    exact lp54 _ 0 _ _  (Nat.lt_succ_self _) hR hB _ hl
  · replace hR := ifp c15 hR
    refine lv_iconst (v := 0) hx hb dX5_isSoundBySteps_50 (by decide) ?_
    rw [← hQ]
    exact end_i hX hB hA3 rfl rfl (by obtain ⟨rfl, rfl, rfl, rfl⟩ := pr4 hR; exact ⟨rfl, Or.inl rfl, (fun h => ho9 ((fun h => ho3 ((fun h => h) h)) h)), (hq11.trans (hq5.trans rfl)), rfl⟩) (Nat.le_of_ble_eq_true rfl) (Nat.le_of_ble_eq_true rfl) dX5_isSoundBySteps_51
noncomputable def D_X5_isFirstSound (r : Nat → Int32) (q : Nat → Int32) (f : Nat → Nat → Int64) : Int32 × (Nat → Int32) × (Nat → Int32) × (Nat → Nat → Int64) := (if 3 < (r (2 * 0)) then (1, r, q, f) else (if (r (2 * 0 + 1)) ≤ 3 then (if (r (2 * 0)) = (r (2 * 0 + 1)) then bnd1 (D_X0_byFirstRow r q f 0) (fun (x50 : Int64) => bnd1 (D_X0_bySequences_4 r q f 0 0 0) (fun (x52 : Int64) => (if (lg_cmp x50 x52) = 0 then bnd3 (D_X4_walk r q f 0) (fun (r55 : Nat → Int32) (q57 : Nat → Int32) (f59 : Nat → Nat → Int64) => (if (q57 0) = 0 then bnd4 (D_X5_isSoundByRowSteps r55 q57 f59 0) (fun (x77 : Int32) (r78 : Nat → Int32) (q80 : Nat → Int32) (f82 : Nat → Nat → Int64) => (if x77 = 0 then (0, r78, q80, f82) else bnd3 (D_X1_walk r78 q80 f82 0) (fun (r85 : Nat → Int32) (q87 : Nat → Int32) (f89 : Nat → Nat → Int64) => (if (q87 1) = 0 then bnd4 (D_X5_isSoundBySteps r85 q87 f89 0) (fun (x92 : Int32) (r93 : Nat → Int32) (q95 : Nat → Int32) (f97 : Nat → Nat → Int64) => (if x92 = 0 then (0, r93, q95, f97) else (1, r93, q95, f97))) else (1, r85, q87, f89))))) else bnd3 (D_X1_walk r55 q57 f59 0) (fun (r62 : Nat → Int32) (q64 : Nat → Int32) (f66 : Nat → Nat → Int64) => (if (q64 1) = 0 then bnd4 (D_X5_isSoundBySteps r62 q64 f66 0) (fun (x69 : Int32) (r70 : Nat → Int32) (q72 : Nat → Int32) (f74 : Nat → Nat → Int64) => (if x69 = 0 then (0, r70, q72, f74) else (1, r70, q72, f74))) else (1, r62, q64, f66))))) else (0, r, q, f)))) else bnd3 (D_X4_walk r q f 0) (fun (r5 : Nat → Int32) (q7 : Nat → Int32) (f9 : Nat → Nat → Int64) => (if (q7 0) = 0 then bnd4 (D_X5_isSoundByRowSteps r5 q7 f9 0) (fun (x27 : Int32) (r28 : Nat → Int32) (q30 : Nat → Int32) (f32 : Nat → Nat → Int64) => (if x27 = 0 then (0, r28, q30, f32) else bnd3 (D_X1_walk r28 q30 f32 0) (fun (r35 : Nat → Int32) (q37 : Nat → Int32) (f39 : Nat → Nat → Int64) => (if (q37 1) = 0 then bnd4 (D_X5_isSoundBySteps r35 q37 f39 0) (fun (x42 : Int32) (r43 : Nat → Int32) (q45 : Nat → Int32) (f47 : Nat → Nat → Int64) => (if x42 = 0 then (0, r43, q45, f47) else (1, r43, q45, f47))) else (1, r35, q37, f39))))) else bnd3 (D_X1_walk r5 q7 f9 0) (fun (r12 : Nat → Int32) (q14 : Nat → Int32) (f16 : Nat → Nat → Int64) => (if (q14 1) = 0 then bnd4 (D_X5_isSoundBySteps r12 q14 f16 0) (fun (x19 : Int32) (r20 : Nat → Int32) (q22 : Nat → Int32) (f24 : Nat → Nat → Int64) => (if x19 = 0 then (0, r20, q22, f24) else (1, r20, q22, f24))) else (1, r12, q14, f16)))))) else (1, r, q, f)))
theorem D_X5_isFirstSound_s {r : Nat → Int32} {q : Nat → Int32} {f : Nat → Nat → Int64} : D_X5_isFirstSound r q f = (if 3 < (r (2 * 0)) then (1, r, q, f) else (if (r (2 * 0 + 1)) ≤ 3 then (if (r (2 * 0)) = (r (2 * 0 + 1)) then bnd1 (D_X0_byFirstRow r q f 0) (fun (x50 : Int64) => bnd1 (D_X0_bySequences_4 r q f 0 0 0) (fun (x52 : Int64) => (if (lg_cmp x50 x52) = 0 then bnd3 (D_X4_walk r q f 0) (fun (r55 : Nat → Int32) (q57 : Nat → Int32) (f59 : Nat → Nat → Int64) => (if (q57 0) = 0 then bnd4 (D_X5_isSoundByRowSteps r55 q57 f59 0) (fun (x77 : Int32) (r78 : Nat → Int32) (q80 : Nat → Int32) (f82 : Nat → Nat → Int64) => (if x77 = 0 then (0, r78, q80, f82) else bnd3 (D_X1_walk r78 q80 f82 0) (fun (r85 : Nat → Int32) (q87 : Nat → Int32) (f89 : Nat → Nat → Int64) => (if (q87 1) = 0 then bnd4 (D_X5_isSoundBySteps r85 q87 f89 0) (fun (x92 : Int32) (r93 : Nat → Int32) (q95 : Nat → Int32) (f97 : Nat → Nat → Int64) => (if x92 = 0 then (0, r93, q95, f97) else (1, r93, q95, f97))) else (1, r85, q87, f89))))) else bnd3 (D_X1_walk r55 q57 f59 0) (fun (r62 : Nat → Int32) (q64 : Nat → Int32) (f66 : Nat → Nat → Int64) => (if (q64 1) = 0 then bnd4 (D_X5_isSoundBySteps r62 q64 f66 0) (fun (x69 : Int32) (r70 : Nat → Int32) (q72 : Nat → Int32) (f74 : Nat → Nat → Int64) => (if x69 = 0 then (0, r70, q72, f74) else (1, r70, q72, f74))) else (1, r62, q64, f66))))) else (0, r, q, f)))) else bnd3 (D_X4_walk r q f 0) (fun (r5 : Nat → Int32) (q7 : Nat → Int32) (f9 : Nat → Nat → Int64) => (if (q7 0) = 0 then bnd4 (D_X5_isSoundByRowSteps r5 q7 f9 0) (fun (x27 : Int32) (r28 : Nat → Int32) (q30 : Nat → Int32) (f32 : Nat → Nat → Int64) => (if x27 = 0 then (0, r28, q30, f32) else bnd3 (D_X1_walk r28 q30 f32 0) (fun (r35 : Nat → Int32) (q37 : Nat → Int32) (f39 : Nat → Nat → Int64) => (if (q37 1) = 0 then bnd4 (D_X5_isSoundBySteps r35 q37 f39 0) (fun (x42 : Int32) (r43 : Nat → Int32) (q45 : Nat → Int32) (f47 : Nat → Nat → Int64) => (if x42 = 0 then (0, r43, q45, f47) else (1, r43, q45, f47))) else (1, r35, q37, f39))))) else bnd3 (D_X1_walk r5 q7 f9 0) (fun (r12 : Nat → Int32) (q14 : Nat → Int32) (f16 : Nat → Nat → Int64) => (if (q14 1) = 0 then bnd4 (D_X5_isSoundBySteps r12 q14 f16 0) (fun (x19 : Int32) (r20 : Nat → Int32) (q22 : Nat → Int32) (f24 : Nat → Nat → Int64) => (if x19 = 0 then (0, r20, q22, f24) else (1, r20, q22, f24))) else (1, r12, q14, f16)))))) else (1, r, q, f))) := rfl
set_option maxHeartbeats 4000000 in
set_option maxRecDepth 100000 in
theorem k_X5_isFirstSound (κ : Kt) (l : Launch) (a : Nat → Nat) (r q : Nat → Int32) (f : Nat → Nat → Int64) (hok : okr r) (o_x : Int32) (o_r : Nat → Int32) (o_q : Nat → Int32) (o_f : Nat → Nat → Int64) (hR : D_X5_isFirstSound r q f = (o_x, o_r, o_q, o_f)) : CM κ l yX5_isFirstSound cX5_isFirstSound 2 (some .boolean) 8 214 0 0 [.ref (a 0)] (cw κ a r q f) (fun o w' => o = some (.int o_x) ∧ (o_x = 0 ∨ o_x = 1) ∧ (okr r → okr o_r) ∧ o_q 4 = q 4 ∧ w' = cw κ a o_r o_q o_f) := by
  refine CM_begin (plainFor_of_name pn_RX5) (Nat.le_of_ble_eq_true rfl) ?_
  intro p e s m args below meth c A Q hX hnm hA3 hQ hB ls hl
  have hx := hX.1.1
  have hb := hX.1.2.1
  have hl : lv_has ls 2 [(0, .ref (a 0))] := hl
  replace hR := (D_X5_isFirstSound_s).symm.trans hR
  refine lv_aload_n hx hb dX5_isFirstSound_0 rfl (lv_at hl 0 rfl) ?_
  refine gf hX hB cw0 rfl in5 0 (by decide) wm_1_137 rfl rfl dX5_isFirstSound_1 ?_
  refine lv_iconst (v := 0) hx hb dX5_isFirstSound_4 (by decide) ?_
  refine aaldG hX hB cw1 (vp_in_iff.mpr ⟨by decide, by decide⟩) (rfl : (fun j => some (a (6 + 2 * j))) (Int32.toNatClampNeg 0) = some (a 6)) dX5_isFirstSound_5 ?_
  refine lv_astore_n (lv' := [(1, .ref (a 6)), (0, .ref (a 0))]) hx hb dX5_isFirstSound_6 rfl hl (by decide) rfl (fun ls hl => ?_)
  refine lv_aload_n hx hb dX5_isFirstSound_7 rfl (lv_at hl 0 rfl) ?_
  refine gfN hX hB (cwG (i := 0) (by decide)) rfl in3 1 (by decide) wn_1_51 rfl rfl dX5_isFirstSound_8 ?_
  refine lv_iconst (v := 3) hx hb dX5_isFirstSound_11 (by decide) ?_
  refine lv_icmp_gt (tgt := 23) hx hb dX5_isFirstSound_12 (by decide) (fun c1 => ?_) (fun c1 => ?_)
  · replace hR := ifp c1 hR
    refine lv_iconst (v := 1) hx hb dX5_isFirstSound_23 (by decide) ?_
    rw [← hQ]
    exact end_i hX hB hA3 rfl rfl (by obtain ⟨rfl, rfl, rfl, rfl⟩ := pr4 hR; exact ⟨rfl, Or.inr rfl, (fun h => h), rfl, rfl⟩) (Nat.le_of_ble_eq_true rfl) (Nat.le_of_ble_eq_true rfl) dX5_isFirstSound_24
  · replace hR := ifn c1 hR
    refine lv_aload_n hx hb dX5_isFirstSound_15 rfl (lv_at hl 0 rfl) ?_
    refine gfN hX hB (cwG (i := 0) (by decide)) rfl in3 2 (by decide) wn_1_57 rfl rfl dX5_isFirstSound_16 ?_
    refine lv_iconst (v := 3) hx hb dX5_isFirstSound_19 (by decide) ?_
    refine lv_icmp_le (tgt := 25) hx hb dX5_isFirstSound_20 (by decide) (fun c2 => ?_) (fun c2 => ?_)
    · replace hR := ifp c2 hR
      refine lv_aload_n hx hb dX5_isFirstSound_25 rfl (lv_at hl 0 rfl) ?_
      refine gfN hX hB (cwG (i := 0) (by decide)) rfl in3 1 (by decide) wn_1_51 rfl rfl dX5_isFirstSound_26 ?_
      refine lv_aload_n hx hb dX5_isFirstSound_29 rfl (lv_at hl 0 rfl) ?_
      refine gfN hX hB (cwG (i := 0) (by decide)) rfl in3 2 (by decide) wn_1_57 rfl rfl dX5_isFirstSound_30 ?_
      refine lv_icmp_ne (tgt := 52) hx hb dX5_isFirstSound_33 (by decide) (fun c3 => ?_) (fun c3 => ?_)
      · replace hR := ifn c3 hR
        refine lv_aload_n hx hb dX5_isFirstSound_52 rfl (lv_at hl 1 rfl) ?_
        refine gf hX hB cw0 rfl in5 3 (by decide) wm_1_140 rfl rfl dX5_isFirstSound_53 ?_
        refine lv_aload_n hx hb dX5_isFirstSound_56 rfl (lv_at hl 0 rfl) ?_
        obtain ⟨r5, q7, f9, hd4⟩ := ex3 (D_X4_walk r q f 0)
        replace hR := bnd3_use hd4 hR
        refine call_V (n := 1) (As := [.ref (a 6)]) (rest := []) hX hB (k_X4_walk κ l a r q f 0 (by decide) r5 q7 f9 hd4) ⟨rfl, yk_X4_walk⟩ wm_1_200 wm_1_201 wm_1_202 wm_1_3 wm_1_203 ⟨Nat.le_of_ble_eq_true rfl, Nat.le_of_ble_eq_true rfl⟩ ⟨Nat.le_of_ble_eq_true rfl, Nat.le_of_ble_eq_true rfl⟩ cw2 rfl rfl rfl hl.1 rfl (Nat.le_of_ble_eq_true rfl) dX5_isFirstSound_57 (fun o w' H locs hp hB => ?_)
        obtain ⟨rfl, ho6, hq8, rfl⟩ := hp
        refine W.eq (g2 := F0 m 60 ls []) rfl ?_
        refine lv_aload_n hx hb dX5_isFirstSound_60 rfl (lv_at hl 1 rfl) ?_
        refine gf hX hB cw0 rfl in5 3 (by decide) wm_1_140 rfl rfl dX5_isFirstSound_61 ?_
        refine gfN hX hB cw2 rfl in4 2 (by decide) wn_1_79 rfl rfl dX5_isFirstSound_64 ?_
        refine lv_if_ne (tgt := 80) hx hb dX5_isFirstSound_67 (by decide) (fun c10 => ?_) (fun c10 => ?_)
        · replace hR := ifn c10 hR
          refine lv_aload_n hx hb dX5_isFirstSound_80 rfl (lv_at hl 1 rfl) ?_
          refine gf hX hB cw0 rfl in5 4 (by decide) wm_1_141 rfl rfl dX5_isFirstSound_81 ?_
          refine lv_aload_n hx hb dX5_isFirstSound_84 rfl (lv_at hl 0 rfl) ?_
          obtain ⟨r12, q14, f16, hd11⟩ := ex3 (D_X1_walk r5 q7 f9 0)
          replace hR := bnd3_use hd11 hR
          refine call_V (n := 1) (As := [.ref (a 6)]) (rest := []) hX hB (k_X1_walk κ l a r5 q7 f9 0 (by decide) r12 q14 f16 hd11) ⟨rfl, yk_X1_walk⟩ wm_2_72 wm_2_73 wm_2_74 wm_1_4 wm_2_75 ⟨Nat.le_of_ble_eq_true rfl, Nat.le_of_ble_eq_true rfl⟩ ⟨Nat.le_of_ble_eq_true rfl, Nat.le_of_ble_eq_true rfl⟩ cw3 rfl rfl rfl hl.1 rfl (Nat.le_of_ble_eq_true rfl) dX5_isFirstSound_85 (fun o w' H locs hp hB => ?_)
          obtain ⟨rfl, ho13, hq15, rfl⟩ := hp
          refine W.eq (g2 := F0 m 88 ls []) rfl ?_
          refine lv_aload_n hx hb dX5_isFirstSound_88 rfl (lv_at hl 1 rfl) ?_
          refine gf hX hB cw0 rfl in5 4 (by decide) wm_1_141 rfl rfl dX5_isFirstSound_89 ?_
          refine gfN hX hB cw3 rfl in1 3 (by decide) wn_1_105 rfl rfl dX5_isFirstSound_92 ?_
          refine lv_if_ne (tgt := 106) hx hb dX5_isFirstSound_95 (by decide) (fun c17 => ?_) (fun c17 => ?_)
          · replace hR := ifn c17 hR
            refine lv_iconst (v := 1) hx hb dX5_isFirstSound_106 (by decide) ?_
            refine lv_goto (tgt := 111) hx hb dX5_isFirstSound_107 (by decide) ?_
            rw [← hQ]
            exact end_i hX hB hA3 rfl rfl (by obtain ⟨rfl, rfl, rfl, rfl⟩ := pr4 hR; exact ⟨rfl, Or.inr rfl, (fun h => ho13 ((fun h => ho6 ((fun h => h) h)) h)), (hq15.trans (hq8.trans rfl)), rfl⟩) (Nat.le_of_ble_eq_true rfl) (Nat.le_of_ble_eq_true rfl) dX5_isFirstSound_111
          · replace hR := ifp c17 hR
            refine lv_aload_n hx hb dX5_isFirstSound_98 rfl (lv_at hl 1 rfl) ?_
            refine lv_aload_n hx hb dX5_isFirstSound_99 rfl (lv_at hl 0 rfl) ?_
            obtain ⟨x19, r20, q22, f24, hd18⟩ := ex4 (D_X5_isSoundBySteps r12 q14 f16 0)
            replace hR := bnd4_use hd18 hR
            refine call_V (n := 1) (As := [.ref (a 6)]) (rest := []) hX hB (k_X5_isSoundBySteps κ l a r12 q14 f16 0 (by decide) x19 r20 q22 f24 hd18) ⟨rfl, yk_X5_isSoundBySteps⟩ wm_2_118 wm_2_120 wp_14 wm_1_1 wm_2_121 ⟨Nat.le_of_ble_eq_true rfl, Nat.le_of_ble_eq_true rfl⟩ ⟨Nat.le_of_ble_eq_true rfl, Nat.le_of_ble_eq_true rfl⟩ cw0 rfl rfl rfl hl.1 rfl (Nat.le_of_ble_eq_true rfl) dX5_isFirstSound_100 (fun o w' H locs hp hB => ?_)
            obtain ⟨rfl, bx19, ho21, hq23, rfl⟩ := hp
            refine W.eq (g2 := F0 m 103 ls [.int x19]) rfl ?_
            refine lv_if_eq (tgt := 110) hx hb dX5_isFirstSound_103 (by decide) (fun c25 => ?_) (fun c25 => ?_)
            · replace hR := ifp c25 hR
              refine lv_iconst (v := 0) hx hb dX5_isFirstSound_110 (by decide) ?_
              rw [← hQ]
              exact end_i hX hB hA3 rfl rfl (by obtain ⟨rfl, rfl, rfl, rfl⟩ := pr4 hR; exact ⟨rfl, Or.inl rfl, (fun h => ho21 ((fun h => ho13 ((fun h => ho6 ((fun h => h) h)) h)) h)), (hq23.trans (hq15.trans (hq8.trans rfl))), rfl⟩) (Nat.le_of_ble_eq_true rfl) (Nat.le_of_ble_eq_true rfl) dX5_isFirstSound_111
            · replace hR := ifn c25 hR
              refine lv_iconst (v := 1) hx hb dX5_isFirstSound_106 (by decide) ?_
              refine lv_goto (tgt := 111) hx hb dX5_isFirstSound_107 (by decide) ?_
              rw [← hQ]
              exact end_i hX hB hA3 rfl rfl (by obtain ⟨rfl, rfl, rfl, rfl⟩ := pr4 hR; exact ⟨rfl, Or.inr rfl, (fun h => ho21 ((fun h => ho13 ((fun h => ho6 ((fun h => h) h)) h)) h)), (hq23.trans (hq15.trans (hq8.trans rfl))), rfl⟩) (Nat.le_of_ble_eq_true rfl) (Nat.le_of_ble_eq_true rfl) dX5_isFirstSound_111
        · replace hR := ifp c10 hR
          refine lv_aload_n hx hb dX5_isFirstSound_70 rfl (lv_at hl 1 rfl) ?_
          refine lv_aload_n hx hb dX5_isFirstSound_71 rfl (lv_at hl 0 rfl) ?_
          obtain ⟨x27, r28, q30, f32, hd26⟩ := ex4 (D_X5_isSoundByRowSteps r5 q7 f9 0)
          replace hR := bnd4_use hd26 hR
          refine call_V (n := 1) (As := [.ref (a 6)]) (rest := []) hX hB (k_X5_isSoundByRowSteps κ l a r5 q7 f9 0 (by decide) ((fun h => ho6 ((fun h => h) h)) hok) x27 r28 q30 f32 hd26) ⟨rfl, yk_X5_isSoundByRowSteps⟩ wm_2_36 wm_2_38 wp_6 wm_1_1 wm_2_39 ⟨Nat.le_of_ble_eq_true rfl, Nat.le_of_ble_eq_true rfl⟩ ⟨Nat.le_of_ble_eq_true rfl, Nat.le_of_ble_eq_true rfl⟩ cw0 rfl rfl rfl hl.1 rfl (Nat.le_of_ble_eq_true rfl) dX5_isFirstSound_72 (fun o w' H locs hp hB => ?_)
          obtain ⟨rfl, bx27, ho29, hq31, rfl⟩ := hp
          refine W.eq (g2 := F0 m 75 ls [.int x27]) rfl ?_
          refine lv_if_ne (tgt := 80) hx hb dX5_isFirstSound_75 (by decide) (fun c33 => ?_) (fun c33 => ?_)
          · replace hR := ifn c33 hR
            refine lv_aload_n hx hb dX5_isFirstSound_80 rfl (lv_at hl 1 rfl) ?_
            refine gf hX hB cw0 rfl in5 4 (by decide) wm_1_141 rfl rfl dX5_isFirstSound_81 ?_
            refine lv_aload_n hx hb dX5_isFirstSound_84 rfl (lv_at hl 0 rfl) ?_
            obtain ⟨r35, q37, f39, hd34⟩ := ex3 (D_X1_walk r28 q30 f32 0)
            replace hR := bnd3_use hd34 hR
            refine call_V (n := 1) (As := [.ref (a 6)]) (rest := []) hX hB (k_X1_walk κ l a r28 q30 f32 0 (by decide) r35 q37 f39 hd34) ⟨rfl, yk_X1_walk⟩ wm_2_72 wm_2_73 wm_2_74 wm_1_4 wm_2_75 ⟨Nat.le_of_ble_eq_true rfl, Nat.le_of_ble_eq_true rfl⟩ ⟨Nat.le_of_ble_eq_true rfl, Nat.le_of_ble_eq_true rfl⟩ cw3 rfl rfl rfl hl.1 rfl (Nat.le_of_ble_eq_true rfl) dX5_isFirstSound_85 (fun o w' H locs hp hB => ?_)
            obtain ⟨rfl, ho36, hq38, rfl⟩ := hp
            refine W.eq (g2 := F0 m 88 ls []) rfl ?_
            refine lv_aload_n hx hb dX5_isFirstSound_88 rfl (lv_at hl 1 rfl) ?_
            refine gf hX hB cw0 rfl in5 4 (by decide) wm_1_141 rfl rfl dX5_isFirstSound_89 ?_
            refine gfN hX hB cw3 rfl in1 3 (by decide) wn_1_105 rfl rfl dX5_isFirstSound_92 ?_
            refine lv_if_ne (tgt := 106) hx hb dX5_isFirstSound_95 (by decide) (fun c40 => ?_) (fun c40 => ?_)
            · replace hR := ifn c40 hR
              refine lv_iconst (v := 1) hx hb dX5_isFirstSound_106 (by decide) ?_
              refine lv_goto (tgt := 111) hx hb dX5_isFirstSound_107 (by decide) ?_
              rw [← hQ]
              exact end_i hX hB hA3 rfl rfl (by obtain ⟨rfl, rfl, rfl, rfl⟩ := pr4 hR; exact ⟨rfl, Or.inr rfl, (fun h => ho36 ((fun h => ho29 ((fun h => ho6 ((fun h => h) h)) h)) h)), (hq38.trans (hq31.trans (hq8.trans rfl))), rfl⟩) (Nat.le_of_ble_eq_true rfl) (Nat.le_of_ble_eq_true rfl) dX5_isFirstSound_111
            · replace hR := ifp c40 hR
              refine lv_aload_n hx hb dX5_isFirstSound_98 rfl (lv_at hl 1 rfl) ?_
              refine lv_aload_n hx hb dX5_isFirstSound_99 rfl (lv_at hl 0 rfl) ?_
              obtain ⟨x42, r43, q45, f47, hd41⟩ := ex4 (D_X5_isSoundBySteps r35 q37 f39 0)
              replace hR := bnd4_use hd41 hR
              refine call_V (n := 1) (As := [.ref (a 6)]) (rest := []) hX hB (k_X5_isSoundBySteps κ l a r35 q37 f39 0 (by decide) x42 r43 q45 f47 hd41) ⟨rfl, yk_X5_isSoundBySteps⟩ wm_2_118 wm_2_120 wp_14 wm_1_1 wm_2_121 ⟨Nat.le_of_ble_eq_true rfl, Nat.le_of_ble_eq_true rfl⟩ ⟨Nat.le_of_ble_eq_true rfl, Nat.le_of_ble_eq_true rfl⟩ cw0 rfl rfl rfl hl.1 rfl (Nat.le_of_ble_eq_true rfl) dX5_isFirstSound_100 (fun o w' H locs hp hB => ?_)
              obtain ⟨rfl, bx42, ho44, hq46, rfl⟩ := hp
              refine W.eq (g2 := F0 m 103 ls [.int x42]) rfl ?_
              refine lv_if_eq (tgt := 110) hx hb dX5_isFirstSound_103 (by decide) (fun c48 => ?_) (fun c48 => ?_)
              · replace hR := ifp c48 hR
                refine lv_iconst (v := 0) hx hb dX5_isFirstSound_110 (by decide) ?_
                rw [← hQ]
                exact end_i hX hB hA3 rfl rfl (by obtain ⟨rfl, rfl, rfl, rfl⟩ := pr4 hR; exact ⟨rfl, Or.inl rfl, (fun h => ho44 ((fun h => ho36 ((fun h => ho29 ((fun h => ho6 ((fun h => h) h)) h)) h)) h)), (hq46.trans (hq38.trans (hq31.trans (hq8.trans rfl)))), rfl⟩) (Nat.le_of_ble_eq_true rfl) (Nat.le_of_ble_eq_true rfl) dX5_isFirstSound_111
              · replace hR := ifn c48 hR
                refine lv_iconst (v := 1) hx hb dX5_isFirstSound_106 (by decide) ?_
                refine lv_goto (tgt := 111) hx hb dX5_isFirstSound_107 (by decide) ?_
                rw [← hQ]
                exact end_i hX hB hA3 rfl rfl (by obtain ⟨rfl, rfl, rfl, rfl⟩ := pr4 hR; exact ⟨rfl, Or.inr rfl, (fun h => ho44 ((fun h => ho36 ((fun h => ho29 ((fun h => ho6 ((fun h => h) h)) h)) h)) h)), (hq46.trans (hq38.trans (hq31.trans (hq8.trans rfl)))), rfl⟩) (Nat.le_of_ble_eq_true rfl) (Nat.le_of_ble_eq_true rfl) dX5_isFirstSound_111
          · replace hR := ifp c33 hR
            refine lv_iconst (v := 0) hx hb dX5_isFirstSound_78 (by decide) ?_
            rw [← hQ]
            exact end_i hX hB hA3 rfl rfl (by obtain ⟨rfl, rfl, rfl, rfl⟩ := pr4 hR; exact ⟨rfl, Or.inl rfl, (fun h => ho29 ((fun h => ho6 ((fun h => h) h)) h)), (hq31.trans (hq8.trans rfl)), rfl⟩) (Nat.le_of_ble_eq_true rfl) (Nat.le_of_ble_eq_true rfl) dX5_isFirstSound_79
      · replace hR := ifp c3 hR
        refine lv_aload_n hx hb dX5_isFirstSound_36 rfl (lv_at hl 0 rfl) ?_
        obtain ⟨x50, hd49⟩ := ex1 (D_X0_byFirstRow r q f 0)
        replace hR := bnd1_use hd49 hR
        refine call_S (n := 1) (As := [.ref (a 6)]) (rest := []) hX hB (k_X0_byFirstRow κ l a r q f 0 (by decide) x50 hd49) yk_X0_byFirstRow wm_1_180 wm_1_181 wm_1_29 wm_1_182 ⟨Nat.le_of_ble_eq_true rfl, Nat.le_of_ble_eq_true rfl⟩ ⟨Nat.le_of_ble_eq_true rfl, Nat.le_of_ble_eq_true rfl⟩ rfl hl.1 rfl (Nat.le_of_ble_eq_true rfl) dX5_isFirstSound_37 (fun o w' H locs hp hB => ?_)
        obtain ⟨rfl, rfl⟩ := hp
        refine W.eq (g2 := F0 m 40 ls [.long x50]) rfl ?_
        refine lv_aload_n hx hb dX5_isFirstSound_40 rfl (lv_at hl 0 rfl) ?_
        refine lv_iconst (v := 0) hx hb dX5_isFirstSound_41 (by decide) ?_
        refine lv_iconst (v := 0) hx hb dX5_isFirstSound_42 (by decide) ?_
        obtain ⟨x52, hd51⟩ := ex1 (D_X0_bySequences_4 r q f 0 0 0)
        replace hR := bnd1_use hd51 hR
        refine call_S (n := 3) (As := [.ref (a 6), .int 0, .int 0]) (rest := [.long x50]) hX hB (k_X0_bySequences_4 κ l a r q f 0 0 0 (by decide) (by decide) x52 hd51) yk_X0_bySequences wm_1_190 wm_1_191 wm_1_29 wm_1_192 ⟨Nat.le_of_ble_eq_true rfl, Nat.le_of_ble_eq_true rfl⟩ ⟨Nat.le_of_ble_eq_true rfl, Nat.le_of_ble_eq_true rfl⟩ rfl hl.1 rfl (Nat.le_of_ble_eq_true rfl) dX5_isFirstSound_43 (fun o w' H locs hp hB => ?_)
        obtain ⟨rfl, rfl⟩ := hp
        refine W.eq (g2 := F0 m 46 ls [.long x52, .long x50]) rfl ?_
        refine W.lcmp hx hb dX5_isFirstSound_46 ?_
        refine lv_if_eq (tgt := 52) hx hb dX5_isFirstSound_47 (by decide) (fun c53 => ?_) (fun c53 => ?_)
        · replace hR := ifp c53 hR
          refine lv_aload_n hx hb dX5_isFirstSound_52 rfl (lv_at hl 1 rfl) ?_
          refine gf hX hB cw0 rfl in5 3 (by decide) wm_1_140 rfl rfl dX5_isFirstSound_53 ?_
          refine lv_aload_n hx hb dX5_isFirstSound_56 rfl (lv_at hl 0 rfl) ?_
          obtain ⟨r55, q57, f59, hd54⟩ := ex3 (D_X4_walk r q f 0)
          replace hR := bnd3_use hd54 hR
          refine call_V (n := 1) (As := [.ref (a 6)]) (rest := []) hX hB (k_X4_walk κ l a r q f 0 (by decide) r55 q57 f59 hd54) ⟨rfl, yk_X4_walk⟩ wm_1_200 wm_1_201 wm_1_202 wm_1_3 wm_1_203 ⟨Nat.le_of_ble_eq_true rfl, Nat.le_of_ble_eq_true rfl⟩ ⟨Nat.le_of_ble_eq_true rfl, Nat.le_of_ble_eq_true rfl⟩ cw2 rfl rfl rfl hl.1 rfl (Nat.le_of_ble_eq_true rfl) dX5_isFirstSound_57 (fun o w' H locs hp hB => ?_)
          obtain ⟨rfl, ho56, hq58, rfl⟩ := hp
          refine W.eq (g2 := F0 m 60 ls []) rfl ?_
          refine lv_aload_n hx hb dX5_isFirstSound_60 rfl (lv_at hl 1 rfl) ?_
          refine gf hX hB cw0 rfl in5 3 (by decide) wm_1_140 rfl rfl dX5_isFirstSound_61 ?_
          refine gfN hX hB cw2 rfl in4 2 (by decide) wn_1_79 rfl rfl dX5_isFirstSound_64 ?_
          refine lv_if_ne (tgt := 80) hx hb dX5_isFirstSound_67 (by decide) (fun c60 => ?_) (fun c60 => ?_)
          · replace hR := ifn c60 hR
            refine lv_aload_n hx hb dX5_isFirstSound_80 rfl (lv_at hl 1 rfl) ?_
            refine gf hX hB cw0 rfl in5 4 (by decide) wm_1_141 rfl rfl dX5_isFirstSound_81 ?_
            refine lv_aload_n hx hb dX5_isFirstSound_84 rfl (lv_at hl 0 rfl) ?_
            obtain ⟨r62, q64, f66, hd61⟩ := ex3 (D_X1_walk r55 q57 f59 0)
            replace hR := bnd3_use hd61 hR
            refine call_V (n := 1) (As := [.ref (a 6)]) (rest := []) hX hB (k_X1_walk κ l a r55 q57 f59 0 (by decide) r62 q64 f66 hd61) ⟨rfl, yk_X1_walk⟩ wm_2_72 wm_2_73 wm_2_74 wm_1_4 wm_2_75 ⟨Nat.le_of_ble_eq_true rfl, Nat.le_of_ble_eq_true rfl⟩ ⟨Nat.le_of_ble_eq_true rfl, Nat.le_of_ble_eq_true rfl⟩ cw3 rfl rfl rfl hl.1 rfl (Nat.le_of_ble_eq_true rfl) dX5_isFirstSound_85 (fun o w' H locs hp hB => ?_)
            obtain ⟨rfl, ho63, hq65, rfl⟩ := hp
            refine W.eq (g2 := F0 m 88 ls []) rfl ?_
            refine lv_aload_n hx hb dX5_isFirstSound_88 rfl (lv_at hl 1 rfl) ?_
            refine gf hX hB cw0 rfl in5 4 (by decide) wm_1_141 rfl rfl dX5_isFirstSound_89 ?_
            refine gfN hX hB cw3 rfl in1 3 (by decide) wn_1_105 rfl rfl dX5_isFirstSound_92 ?_
            refine lv_if_ne (tgt := 106) hx hb dX5_isFirstSound_95 (by decide) (fun c67 => ?_) (fun c67 => ?_)
            · replace hR := ifn c67 hR
              refine lv_iconst (v := 1) hx hb dX5_isFirstSound_106 (by decide) ?_
              refine lv_goto (tgt := 111) hx hb dX5_isFirstSound_107 (by decide) ?_
              rw [← hQ]
              exact end_i hX hB hA3 rfl rfl (by obtain ⟨rfl, rfl, rfl, rfl⟩ := pr4 hR; exact ⟨rfl, Or.inr rfl, (fun h => ho63 ((fun h => ho56 ((fun h => h) h)) h)), (hq65.trans (hq58.trans rfl)), rfl⟩) (Nat.le_of_ble_eq_true rfl) (Nat.le_of_ble_eq_true rfl) dX5_isFirstSound_111
            · replace hR := ifp c67 hR
              refine lv_aload_n hx hb dX5_isFirstSound_98 rfl (lv_at hl 1 rfl) ?_
              refine lv_aload_n hx hb dX5_isFirstSound_99 rfl (lv_at hl 0 rfl) ?_
              obtain ⟨x69, r70, q72, f74, hd68⟩ := ex4 (D_X5_isSoundBySteps r62 q64 f66 0)
              replace hR := bnd4_use hd68 hR
              refine call_V (n := 1) (As := [.ref (a 6)]) (rest := []) hX hB (k_X5_isSoundBySteps κ l a r62 q64 f66 0 (by decide) x69 r70 q72 f74 hd68) ⟨rfl, yk_X5_isSoundBySteps⟩ wm_2_118 wm_2_120 wp_14 wm_1_1 wm_2_121 ⟨Nat.le_of_ble_eq_true rfl, Nat.le_of_ble_eq_true rfl⟩ ⟨Nat.le_of_ble_eq_true rfl, Nat.le_of_ble_eq_true rfl⟩ cw0 rfl rfl rfl hl.1 rfl (Nat.le_of_ble_eq_true rfl) dX5_isFirstSound_100 (fun o w' H locs hp hB => ?_)
              obtain ⟨rfl, bx69, ho71, hq73, rfl⟩ := hp
              refine W.eq (g2 := F0 m 103 ls [.int x69]) rfl ?_
              refine lv_if_eq (tgt := 110) hx hb dX5_isFirstSound_103 (by decide) (fun c75 => ?_) (fun c75 => ?_)
              · replace hR := ifp c75 hR
                refine lv_iconst (v := 0) hx hb dX5_isFirstSound_110 (by decide) ?_
                rw [← hQ]
                exact end_i hX hB hA3 rfl rfl (by obtain ⟨rfl, rfl, rfl, rfl⟩ := pr4 hR; exact ⟨rfl, Or.inl rfl, (fun h => ho71 ((fun h => ho63 ((fun h => ho56 ((fun h => h) h)) h)) h)), (hq73.trans (hq65.trans (hq58.trans rfl))), rfl⟩) (Nat.le_of_ble_eq_true rfl) (Nat.le_of_ble_eq_true rfl) dX5_isFirstSound_111
              · replace hR := ifn c75 hR
                refine lv_iconst (v := 1) hx hb dX5_isFirstSound_106 (by decide) ?_
                refine lv_goto (tgt := 111) hx hb dX5_isFirstSound_107 (by decide) ?_
                rw [← hQ]
                exact end_i hX hB hA3 rfl rfl (by obtain ⟨rfl, rfl, rfl, rfl⟩ := pr4 hR; exact ⟨rfl, Or.inr rfl, (fun h => ho71 ((fun h => ho63 ((fun h => ho56 ((fun h => h) h)) h)) h)), (hq73.trans (hq65.trans (hq58.trans rfl))), rfl⟩) (Nat.le_of_ble_eq_true rfl) (Nat.le_of_ble_eq_true rfl) dX5_isFirstSound_111
          · replace hR := ifp c60 hR
            refine lv_aload_n hx hb dX5_isFirstSound_70 rfl (lv_at hl 1 rfl) ?_
            refine lv_aload_n hx hb dX5_isFirstSound_71 rfl (lv_at hl 0 rfl) ?_
            obtain ⟨x77, r78, q80, f82, hd76⟩ := ex4 (D_X5_isSoundByRowSteps r55 q57 f59 0)
            replace hR := bnd4_use hd76 hR
            refine call_V (n := 1) (As := [.ref (a 6)]) (rest := []) hX hB (k_X5_isSoundByRowSteps κ l a r55 q57 f59 0 (by decide) ((fun h => ho56 ((fun h => h) h)) hok) x77 r78 q80 f82 hd76) ⟨rfl, yk_X5_isSoundByRowSteps⟩ wm_2_36 wm_2_38 wp_6 wm_1_1 wm_2_39 ⟨Nat.le_of_ble_eq_true rfl, Nat.le_of_ble_eq_true rfl⟩ ⟨Nat.le_of_ble_eq_true rfl, Nat.le_of_ble_eq_true rfl⟩ cw0 rfl rfl rfl hl.1 rfl (Nat.le_of_ble_eq_true rfl) dX5_isFirstSound_72 (fun o w' H locs hp hB => ?_)
            obtain ⟨rfl, bx77, ho79, hq81, rfl⟩ := hp
            refine W.eq (g2 := F0 m 75 ls [.int x77]) rfl ?_
            refine lv_if_ne (tgt := 80) hx hb dX5_isFirstSound_75 (by decide) (fun c83 => ?_) (fun c83 => ?_)
            · replace hR := ifn c83 hR
              refine lv_aload_n hx hb dX5_isFirstSound_80 rfl (lv_at hl 1 rfl) ?_
              refine gf hX hB cw0 rfl in5 4 (by decide) wm_1_141 rfl rfl dX5_isFirstSound_81 ?_
              refine lv_aload_n hx hb dX5_isFirstSound_84 rfl (lv_at hl 0 rfl) ?_
              obtain ⟨r85, q87, f89, hd84⟩ := ex3 (D_X1_walk r78 q80 f82 0)
              replace hR := bnd3_use hd84 hR
              refine call_V (n := 1) (As := [.ref (a 6)]) (rest := []) hX hB (k_X1_walk κ l a r78 q80 f82 0 (by decide) r85 q87 f89 hd84) ⟨rfl, yk_X1_walk⟩ wm_2_72 wm_2_73 wm_2_74 wm_1_4 wm_2_75 ⟨Nat.le_of_ble_eq_true rfl, Nat.le_of_ble_eq_true rfl⟩ ⟨Nat.le_of_ble_eq_true rfl, Nat.le_of_ble_eq_true rfl⟩ cw3 rfl rfl rfl hl.1 rfl (Nat.le_of_ble_eq_true rfl) dX5_isFirstSound_85 (fun o w' H locs hp hB => ?_)
              obtain ⟨rfl, ho86, hq88, rfl⟩ := hp
              refine W.eq (g2 := F0 m 88 ls []) rfl ?_
              refine lv_aload_n hx hb dX5_isFirstSound_88 rfl (lv_at hl 1 rfl) ?_
              refine gf hX hB cw0 rfl in5 4 (by decide) wm_1_141 rfl rfl dX5_isFirstSound_89 ?_
              refine gfN hX hB cw3 rfl in1 3 (by decide) wn_1_105 rfl rfl dX5_isFirstSound_92 ?_
              refine lv_if_ne (tgt := 106) hx hb dX5_isFirstSound_95 (by decide) (fun c90 => ?_) (fun c90 => ?_)
              · replace hR := ifn c90 hR
                refine lv_iconst (v := 1) hx hb dX5_isFirstSound_106 (by decide) ?_
                refine lv_goto (tgt := 111) hx hb dX5_isFirstSound_107 (by decide) ?_
                rw [← hQ]
                exact end_i hX hB hA3 rfl rfl (by obtain ⟨rfl, rfl, rfl, rfl⟩ := pr4 hR; exact ⟨rfl, Or.inr rfl, (fun h => ho86 ((fun h => ho79 ((fun h => ho56 ((fun h => h) h)) h)) h)), (hq88.trans (hq81.trans (hq58.trans rfl))), rfl⟩) (Nat.le_of_ble_eq_true rfl) (Nat.le_of_ble_eq_true rfl) dX5_isFirstSound_111
              · replace hR := ifp c90 hR
                refine lv_aload_n hx hb dX5_isFirstSound_98 rfl (lv_at hl 1 rfl) ?_
                refine lv_aload_n hx hb dX5_isFirstSound_99 rfl (lv_at hl 0 rfl) ?_
                obtain ⟨x92, r93, q95, f97, hd91⟩ := ex4 (D_X5_isSoundBySteps r85 q87 f89 0)
                replace hR := bnd4_use hd91 hR
                refine call_V (n := 1) (As := [.ref (a 6)]) (rest := []) hX hB (k_X5_isSoundBySteps κ l a r85 q87 f89 0 (by decide) x92 r93 q95 f97 hd91) ⟨rfl, yk_X5_isSoundBySteps⟩ wm_2_118 wm_2_120 wp_14 wm_1_1 wm_2_121 ⟨Nat.le_of_ble_eq_true rfl, Nat.le_of_ble_eq_true rfl⟩ ⟨Nat.le_of_ble_eq_true rfl, Nat.le_of_ble_eq_true rfl⟩ cw0 rfl rfl rfl hl.1 rfl (Nat.le_of_ble_eq_true rfl) dX5_isFirstSound_100 (fun o w' H locs hp hB => ?_)
                obtain ⟨rfl, bx92, ho94, hq96, rfl⟩ := hp
                refine W.eq (g2 := F0 m 103 ls [.int x92]) rfl ?_
                refine lv_if_eq (tgt := 110) hx hb dX5_isFirstSound_103 (by decide) (fun c98 => ?_) (fun c98 => ?_)
                · replace hR := ifp c98 hR
                  refine lv_iconst (v := 0) hx hb dX5_isFirstSound_110 (by decide) ?_
                  rw [← hQ]
                  exact end_i hX hB hA3 rfl rfl (by obtain ⟨rfl, rfl, rfl, rfl⟩ := pr4 hR; exact ⟨rfl, Or.inl rfl, (fun h => ho94 ((fun h => ho86 ((fun h => ho79 ((fun h => ho56 ((fun h => h) h)) h)) h)) h)), (hq96.trans (hq88.trans (hq81.trans (hq58.trans rfl)))), rfl⟩) (Nat.le_of_ble_eq_true rfl) (Nat.le_of_ble_eq_true rfl) dX5_isFirstSound_111
                · replace hR := ifn c98 hR
                  refine lv_iconst (v := 1) hx hb dX5_isFirstSound_106 (by decide) ?_
                  refine lv_goto (tgt := 111) hx hb dX5_isFirstSound_107 (by decide) ?_
                  rw [← hQ]
                  exact end_i hX hB hA3 rfl rfl (by obtain ⟨rfl, rfl, rfl, rfl⟩ := pr4 hR; exact ⟨rfl, Or.inr rfl, (fun h => ho94 ((fun h => ho86 ((fun h => ho79 ((fun h => ho56 ((fun h => h) h)) h)) h)) h)), (hq96.trans (hq88.trans (hq81.trans (hq58.trans rfl)))), rfl⟩) (Nat.le_of_ble_eq_true rfl) (Nat.le_of_ble_eq_true rfl) dX5_isFirstSound_111
            · replace hR := ifp c83 hR
              refine lv_iconst (v := 0) hx hb dX5_isFirstSound_78 (by decide) ?_
              rw [← hQ]
              exact end_i hX hB hA3 rfl rfl (by obtain ⟨rfl, rfl, rfl, rfl⟩ := pr4 hR; exact ⟨rfl, Or.inl rfl, (fun h => ho79 ((fun h => ho56 ((fun h => h) h)) h)), (hq81.trans (hq58.trans rfl)), rfl⟩) (Nat.le_of_ble_eq_true rfl) (Nat.le_of_ble_eq_true rfl) dX5_isFirstSound_79
        · replace hR := ifn c53 hR
          refine lv_iconst (v := 0) hx hb dX5_isFirstSound_50 (by decide) ?_
          rw [← hQ]
          exact end_i hX hB hA3 rfl rfl (by obtain ⟨rfl, rfl, rfl, rfl⟩ := pr4 hR; exact ⟨rfl, Or.inl rfl, (fun h => h), rfl, rfl⟩) (Nat.le_of_ble_eq_true rfl) (Nat.le_of_ble_eq_true rfl) dX5_isFirstSound_51
    · replace hR := ifn c2 hR
      refine lv_iconst (v := 1) hx hb dX5_isFirstSound_23 (by decide) ?_
      rw [← hQ]
      exact end_i hX hB hA3 rfl rfl (by obtain ⟨rfl, rfl, rfl, rfl⟩ := pr4 hR; exact ⟨rfl, Or.inr rfl, (fun h => h), rfl, rfl⟩) (Nat.le_of_ble_eq_true rfl) (Nat.le_of_ble_eq_true rfl) dX5_isFirstSound_24
end
section
-- 27.gm3
noncomputable def D_X5_make_j26 (r : Nat → Int32) (q : Nat → Int32) (f : Nat → Nat → Int64) (p1 : Int32) (p2 : Int32) (x5 : Nat) (z0_26 : Int32) : String × Int32 × (Nat → Int32) × (Nat → Int32) × (Nat → Nat → Int64) := bnd1 (D_X5_needArgument r q f z0_26) (fun (E13 : String) => (if E13 = "" then bnd1 (D_X3_countFilled r q f x5) (fun (x17 : Int32) => bnd3 (D_X3_reshape r q f x5 p1 p2) (fun (r19 : Nat → Int32) (q21 : Nat → Int32) (f23 : Nat → Nat → Int64) => bnd3 (D_X5_tellDone r19 q21 f23 x17) (fun (x25 : Int32) (q26 : Nat → Int32) (f28 : Nat → Nat → Int64) => ("", x25, r19, q26, f28)))) else (E13, 0, r, q, f)))
theorem D_X5_make_j26_s {r : Nat → Int32} {q : Nat → Int32} {f : Nat → Nat → Int64} {p1 : Int32} {p2 : Int32} {x5 : Nat} {z0_26 : Int32} : D_X5_make_j26 r q f p1 p2 x5 z0_26 = bnd1 (D_X5_needArgument r q f z0_26) (fun (E13 : String) => (if E13 = "" then bnd1 (D_X3_countFilled r q f x5) (fun (x17 : Int32) => bnd3 (D_X3_reshape r q f x5 p1 p2) (fun (r19 : Nat → Int32) (q21 : Nat → Int32) (f23 : Nat → Nat → Int64) => bnd3 (D_X5_tellDone r19 q21 f23 x17) (fun (x25 : Int32) (q26 : Nat → Int32) (f28 : Nat → Nat → Int64) => ("", x25, r19, q26, f28)))) else (E13, 0, r, q, f))) := rfl
noncomputable def D_X5_make (r : Nat → Int32) (q : Nat → Int32) (f : Nat → Nat → Int64) (p0 : Int32) (p1 : Int32) (p2 : Int32) : String × Int32 × (Nat → Int32) × (Nat → Int32) × (Nat → Nat → Int64) := bnd2 (D_X5_needTable r q f p0) (fun (E2 : String) (x5 : Nat) => (if E2 = "" then bnd1 (D_X5_isCount p1) (fun (x6 : Int32) => (if x6 = 0 then (D_X5_make_j26 r q f p1 p2 x5 0) else bnd1 (D_X5_isCount p2) (fun (x30 : Int32) => (if x30 = 0 then (D_X5_make_j26 r q f p1 p2 x5 0) else (D_X5_make_j26 r q f p1 p2 x5 1))))) else (E2, 0, r, q, f)))
theorem D_X5_make_s {r : Nat → Int32} {q : Nat → Int32} {f : Nat → Nat → Int64} {p0 : Int32} {p1 : Int32} {p2 : Int32} : D_X5_make r q f p0 p1 p2 = bnd2 (D_X5_needTable r q f p0) (fun (E2 : String) (x5 : Nat) => (if E2 = "" then bnd1 (D_X5_isCount p1) (fun (x6 : Int32) => (if x6 = 0 then (D_X5_make_j26 r q f p1 p2 x5 0) else bnd1 (D_X5_isCount p2) (fun (x30 : Int32) => (if x30 = 0 then (D_X5_make_j26 r q f p1 p2 x5 0) else (D_X5_make_j26 r q f p1 p2 x5 1))))) else (E2, 0, r, q, f))) := rfl
set_option maxHeartbeats 4000000 in
set_option maxRecDepth 100000 in
theorem k_X5_make (κ : Kt) (l : Launch) (hst : l.stackTraces = false) (a : Nat → Nat) (r q : Nat → Int32) (f : Nat → Nat → Int64) (p0 : Int32) (p1 : Int32) (p2 : Int32)  (o_E : String) (o_x : Int32) (o_r : Nat → Int32) (o_q : Nat → Int32) (o_f : Nat → Nat → Int64) (hR : D_X5_make r q f p0 p1 p2 = (o_E, o_x, o_r, o_q, o_f)) : CX κ l yX5_make cX5_make 6 (some .int) 7 111 2 12 [.ref (a 0), .int p0, .int p1, .int p2] (cw κ a r q f) (fun o w' => o_E = "" ∧ o = some (.int o_x) ∧ (okr r → okr o_r) ∧ o_q 4 = q 4 ∧ w' = cw κ a o_r o_q o_f) (fun E w' => o_E = E ∧ o_E ∈ (["java/lang/IndexOutOfBoundsException", "java/lang/IllegalArgumentException"] : List String) ∧ (okr r → okr o_r) ∧ o_q 4 = q 4 ∧ w' = cw κ a o_r o_q o_f) := by
  refine CX_begin (by decide) (Nat.le_of_ble_eq_true rfl) ?_
  intro p e s m args below meth c A Q hX hne hA3 hQ hB ls hl
  have hx := hX.1.1
  have hb := hX.1.2.1
  have hl : lv_has ls 6 [(0, .ref (a 0)), (1, .int p0), (2, .int p1), (3, .int p2)] := hl
  replace hR := (D_X5_make_s).symm.trans hR
  refine lv_aload_n hx hb dX5_make_0 rfl (lv_at hl 0 rfl) ?_
  refine lv_iload_n hx hb dX5_make_1 rfl (lv_at hl 1 rfl) ?_
  obtain ⟨E2, x5, hd1⟩ := ex2 (D_X5_needTable r q f p0)
  replace hR := bnd2_use hd1 hR
  refine CX_after2 hX hB (run_XV (n := 1) (As := [.int p0]) (rest := []) hX hB (k_X5_needTable κ l hst a r q f p0 E2 x5 hd1) ⟨rfl, yk_X5_needTable⟩ wm_2_165 wm_2_167 wp_17 wm_1_1 wm_2_168 ⟨Nat.le_of_ble_eq_true rfl, Nat.le_of_ble_eq_true rfl⟩ ⟨Nat.le_of_ble_eq_true rfl, Nat.le_of_ble_eq_true rfl⟩ cw0 rfl rfl rfl hl.1 rfl (Nat.le_of_ble_eq_true rfl) dX5_make_2) (fun E ce q9 w' H locs hp hB hce hcv hcl => ?_) (fun o w' H locs hp hB => ?_)
  · obtain ⟨he3, hE4, rfl⟩ := hp
    replace hR := ifn (ne_mt hE4 (by decide)) hR
    rw [← hQ]
    exact thrown_on hX hne hB hA3 hce hcv hcl (by obtain ⟨rfl, rfl, rfl, rfl, rfl⟩ := pr5 hR; exact ⟨he3, ((by decide : ∀ x ∈ (["java/lang/IndexOutOfBoundsException"] : List String), x ∈ (["java/lang/IndexOutOfBoundsException", "java/lang/IllegalArgumentException"] : List String)) _ hE4), (fun h => h), rfl, rfl⟩) (Nat.le_of_ble_eq_true rfl) (Nat.le_of_ble_eq_true rfl)
  obtain ⟨he3, hx5, rfl, rfl⟩ := hp
  replace hR := ifp he3 hR
  refine W.eq (g2 := F0 m 5 ls [.ref (a (6 + 2 * x5))]) rfl ?_
  refine lv_astore (lv' := [(4, .ref (a (6 + 2 * x5))), (0, .ref (a 0)), (1, .int p0), (2, .int p1), (3, .int p2)]) hx hb dX5_make_5 hl (by decide) rfl (fun ls hl => ?_)
  refine lv_iload_n hx hb dX5_make_7 rfl (lv_at hl 3 rfl) ?_
  obtain ⟨x6, hd7⟩ := ex1 (D_X5_isCount p1)
  replace hR := bnd1_use hd7 hR
  refine call_S (n := 1) (As := [.int p1]) (rest := []) hX hB (k_X5_isCount κ l (cw κ a r q f) p1  x6 hd7) yk_X5_isCount wm_2_237 wm_2_238 wm_1_1 wm_2_239 ⟨Nat.le_of_ble_eq_true rfl, Nat.le_of_ble_eq_true rfl⟩ ⟨Nat.le_of_ble_eq_true rfl, Nat.le_of_ble_eq_true rfl⟩ rfl hl.1 rfl (Nat.le_of_ble_eq_true rfl) dX5_make_8 (fun o w' H locs hp hB => ?_)
  obtain ⟨rfl, bx6, hw9⟩ := hp
  rw [hw9] at hB
  refine W.eq (g2 := F0 m 11 ls [.int x6]) rfl ?_
  have jn26 : ∀ (z0_26 : Int32) (H : Heap) (locs : List Loc), (z0_26 = 0 ∨ z0_26 = 1) → D_X5_make_j26 r q f p1 p2 x5 z0_26 = (o_E, o_x, o_r, o_q, o_f) → Bd κ A s (cw κ a r q f) H locs → ∀ ls : Array Slot, lv_has ls 6 [(4, .ref (a (6 + 2 * x5))), (0, .ref (a 0)), (1, .int p0), (2, .int p1), (3, .int p2)] → W p l e (Rm 7 111 2 12) s m args below meth c H locs 1 6 Q (F0 m 26 ls [.int z0_26]) := by
    intro z0_26 H locs hz0_26 hR hB ls hl
    replace hR := (D_X5_make_j26_s).symm.trans hR
    obtain ⟨E13, hd12⟩ := ex1 (D_X5_needArgument r q f z0_26)
    replace hR := bnd1_use hd12 hR
    refine CX_after2 hX hB (run_XS (n := 1) (As := [.int z0_26]) (rest := []) hX hB (k_X5_needArgument κ l hst a r q f z0_26 E13 hd12) yk_X5_needArgument wm_3_0 wm_3_1 wm_1_1 wm_3_2 ⟨Nat.le_of_ble_eq_true rfl, Nat.le_of_ble_eq_true rfl⟩ ⟨Nat.le_of_ble_eq_true rfl, Nat.le_of_ble_eq_true rfl⟩ rfl hl.1 rfl (Nat.le_of_ble_eq_true rfl) dX5_make_26) (fun E ce q9 w' H locs hp hB hce hcv hcl => ?_) (fun o w' H locs hp hB => ?_)
    · obtain ⟨he14, hE15, rfl⟩ := hp
      replace hR := ifn (ne_mt hE15 (by decide)) hR
      rw [← hQ]
      exact thrown_on hX hne hB hA3 hce hcv hcl (by obtain ⟨rfl, rfl, rfl, rfl, rfl⟩ := pr5 hR; exact ⟨he14, ((by decide : ∀ x ∈ (["java/lang/IllegalArgumentException"] : List String), x ∈ (["java/lang/IndexOutOfBoundsException", "java/lang/IllegalArgumentException"] : List String)) _ hE15), (fun h => h), rfl, rfl⟩) (Nat.le_of_ble_eq_true rfl) (Nat.le_of_ble_eq_true rfl)
    obtain ⟨he14, rfl, rfl⟩ := hp
    replace hR := ifp he14 hR
    refine W.eq (g2 := F0 m 29 ls []) rfl ?_
    refine lv_aload hx hb dX5_make_29 (lv_at hl 0 rfl) ?_
    obtain ⟨x17, hd16⟩ := ex1 (D_X3_countFilled r q f x5)
    replace hR := bnd1_use hd16 hR
    refine call_V (n := 0) (As := []) (rest := []) hX hB (k_X3_countFilled κ l a r q f x5 (lt15 hx5) x17 hd16) ⟨rfl, yk_X3_countFilled⟩ wm_3_19 wm_3_20 wm_3_21 wm_1_2 wm_3_22 ⟨Nat.le_of_ble_eq_true rfl, Nat.le_of_ble_eq_true rfl⟩ ⟨Nat.le_of_ble_eq_true rfl, Nat.le_of_ble_eq_true rfl⟩ (cwG (i := x5) (lt15 hx5)) rfl rfl rfl hl.1 rfl (Nat.le_of_ble_eq_true rfl) dX5_make_31 (fun o w' H locs hp hB => ?_)
    obtain ⟨rfl, rfl⟩ := hp
    refine W.eq (g2 := F0 m 34 ls [.int x17]) rfl ?_
    refine lv_istore (lv' := [(5, .int x17), (4, .ref (a (6 + 2 * x5))), (0, .ref (a 0)), (1, .int p0), (2, .int p1), (3, .int p2)]) hx hb dX5_make_34 hl (by decide) rfl (fun ls hl => ?_)
    refine lv_aload hx hb dX5_make_36 (lv_at hl 1 rfl) ?_
    refine lv_iload_n hx hb dX5_make_38 rfl (lv_at hl 4 rfl) ?_
    refine lv_iload_n hx hb dX5_make_39 rfl (lv_at hl 5 rfl) ?_
    obtain ⟨r19, q21, f23, hd18⟩ := ex3 (D_X3_reshape r q f x5 p1 p2)
    replace hR := bnd3_use hd18 hR
    refine call_V (n := 2) (As := [.int p1, .int p2]) (rest := []) hX hB (k_X3_reshape κ l a r q f x5 p1 p2 (lt15 hx5) r19 q21 f23 hd18) ⟨rfl, yk_X3_reshape⟩ wm_3_23 wm_1_213 wm_1_214 wm_1_2 wm_1_215 ⟨Nat.le_of_ble_eq_true rfl, Nat.le_of_ble_eq_true rfl⟩ ⟨Nat.le_of_ble_eq_true rfl, Nat.le_of_ble_eq_true rfl⟩ (cwG (i := x5) (lt15 hx5)) rfl rfl rfl hl.1 rfl (Nat.le_of_ble_eq_true rfl) dX5_make_40 (fun o w' H locs hp hB => ?_)
    obtain ⟨rfl, ho20, hq22, rfl⟩ := hp
    refine W.eq (g2 := F0 m 43 ls []) rfl ?_
    refine lv_aload_n hx hb dX5_make_43 rfl (lv_at hl 2 rfl) ?_
    refine lv_iload hx hb dX5_make_44 (lv_at hl 0 rfl) ?_
    obtain ⟨x25, q26, f28, hd24⟩ := ex3 (D_X5_tellDone r19 q21 f23 x17)
    replace hR := bnd3_use hd24 hR
    refine call_V (n := 1) (As := [.int x17]) (rest := []) hX hB (k_X5_tellDone κ l a r19 q21 f23 x17 x25 q26 f28 hd24) ⟨rfl, yk_X5_tellDone⟩ wm_3_24 wm_3_26 wp_19 wm_1_1 wm_3_27 ⟨Nat.le_of_ble_eq_true rfl, Nat.le_of_ble_eq_true rfl⟩ ⟨Nat.le_of_ble_eq_true rfl, Nat.le_of_ble_eq_true rfl⟩ cw0 rfl rfl rfl hl.1 rfl (Nat.le_of_ble_eq_true rfl) dX5_make_46 (fun o w' H locs hp hB => ?_)
    obtain ⟨rfl, hq27, rfl⟩ := hp
    refine W.eq (g2 := F0 m 49 ls [.int x25]) rfl ?_
    rw [← hQ]
    exact vx_ret ( end_i hX hB hA3 rfl rfl (by obtain ⟨rfl, rfl, rfl, rfl, rfl⟩ := pr5 hR; exact ⟨rfl, rfl, (fun h => ho20 ((fun h => h) h)), (hq27.trans (hq22.trans rfl)), rfl⟩) (Nat.le_of_ble_eq_true rfl) (Nat.le_of_ble_eq_true rfl) dX5_make_49)
  refine lv_if_eq (tgt := 25) hx hb dX5_make_11 (by decide) (fun c29 => ?_) (fun c29 => ?_)
  · replace hR := ifp c29 hR
    refine lv_iconst (v := 0) hx hb dX5_make_25 (by decide) ?_
    exact jn26 0 _ _ (Or.inl rfl) hR hB _ hl
  · replace hR := ifn c29 hR
    refine lv_iload_n hx hb dX5_make_14 rfl (lv_at hl 4 rfl) ?_
    obtain ⟨x30, hd31⟩ := ex1 (D_X5_isCount p2)
    replace hR := bnd1_use hd31 hR
    refine call_S (n := 1) (As := [.int p2]) (rest := []) hX hB (k_X5_isCount κ l (cw κ a r q f) p2  x30 hd31) yk_X5_isCount wm_2_237 wm_2_238 wm_1_1 wm_2_239 ⟨Nat.le_of_ble_eq_true rfl, Nat.le_of_ble_eq_true rfl⟩ ⟨Nat.le_of_ble_eq_true rfl, Nat.le_of_ble_eq_true rfl⟩ rfl hl.1 rfl (Nat.le_of_ble_eq_true rfl) dX5_make_15 (fun o w' H locs hp hB => ?_)
    obtain ⟨rfl, bx30, hw9⟩ := hp
    rw [hw9] at hB
    refine W.eq (g2 := F0 m 18 ls [.int x30]) rfl ?_
    refine lv_if_eq (tgt := 25) hx hb dX5_make_18 (by decide) (fun c32 => ?_) (fun c32 => ?_)
    · replace hR := ifp c32 hR
      refine lv_iconst (v := 0) hx hb dX5_make_25 (by decide) ?_
      exact jn26 0 _ _ (Or.inl rfl) hR hB _ hl
    · replace hR := ifn c32 hR
      refine lv_iconst (v := 1) hx hb dX5_make_21 (by decide) ?_
      refine lv_goto (tgt := 26) hx hb dX5_make_22 (by decide) ?_
      exact jn26 1 _ _ (Or.inr rfl) hR hB _ hl
noncomputable def D_X5_unit (r : Nat → Int32) (q : Nat → Int32) (f : Nat → Nat → Int64) (p0 : Int32) (p1 : Int32) : String × Int32 × (Nat → Int32) × (Nat → Int32) × (Nat → Nat → Int64) := bnd2 (D_X5_needTable r q f p0) (fun (E2 : String) (x5 : Nat) => (if E2 = "" then bnd1 (D_X5_isCount p1) (fun (x6 : Int32) => bnd1 (D_X5_needArgument r q f x6) (fun (E9 : String) => (if E9 = "" then bnd1 (D_X3_countFilled r q f x5) (fun (x13 : Int32) => bnd3 (D_X3_becomeUnit r q f x5 p1) (fun (r15 : Nat → Int32) (q17 : Nat → Int32) (f19 : Nat → Nat → Int64) => bnd3 (D_X5_tellDone r15 q17 f19 x13) (fun (x21 : Int32) (q22 : Nat → Int32) (f24 : Nat → Nat → Int64) => ("", x21, r15, q22, f24)))) else (E9, 0, r, q, f)))) else (E2, 0, r, q, f)))
theorem D_X5_unit_s {r : Nat → Int32} {q : Nat → Int32} {f : Nat → Nat → Int64} {p0 : Int32} {p1 : Int32} : D_X5_unit r q f p0 p1 = bnd2 (D_X5_needTable r q f p0) (fun (E2 : String) (x5 : Nat) => (if E2 = "" then bnd1 (D_X5_isCount p1) (fun (x6 : Int32) => bnd1 (D_X5_needArgument r q f x6) (fun (E9 : String) => (if E9 = "" then bnd1 (D_X3_countFilled r q f x5) (fun (x13 : Int32) => bnd3 (D_X3_becomeUnit r q f x5 p1) (fun (r15 : Nat → Int32) (q17 : Nat → Int32) (f19 : Nat → Nat → Int64) => bnd3 (D_X5_tellDone r15 q17 f19 x13) (fun (x21 : Int32) (q22 : Nat → Int32) (f24 : Nat → Nat → Int64) => ("", x21, r15, q22, f24)))) else (E9, 0, r, q, f)))) else (E2, 0, r, q, f))) := rfl
set_option maxHeartbeats 4000000 in
set_option maxRecDepth 100000 in
theorem k_X5_unit (κ : Kt) (l : Launch) (hst : l.stackTraces = false) (a : Nat → Nat) (r q : Nat → Int32) (f : Nat → Nat → Int64) (p0 : Int32) (p1 : Int32)  (o_E : String) (o_x : Int32) (o_r : Nat → Int32) (o_q : Nat → Int32) (o_f : Nat → Nat → Int64) (hR : D_X5_unit r q f p0 p1 = (o_E, o_x, o_r, o_q, o_f)) : CX κ l yX5_unit cX5_unit 5 (some .int) 7 111 2 12 [.ref (a 0), .int p0, .int p1] (cw κ a r q f) (fun o w' => o_E = "" ∧ o = some (.int o_x) ∧ (okr r → okr o_r) ∧ o_q 4 = q 4 ∧ w' = cw κ a o_r o_q o_f) (fun E w' => o_E = E ∧ o_E ∈ (["java/lang/IndexOutOfBoundsException", "java/lang/IllegalArgumentException"] : List String) ∧ (okr r → okr o_r) ∧ o_q 4 = q 4 ∧ w' = cw κ a o_r o_q o_f) := by
  refine CX_begin (by decide) (Nat.le_of_ble_eq_true rfl) ?_
  intro p e s m args below meth c A Q hX hne hA3 hQ hB ls hl
  have hx := hX.1.1
  have hb := hX.1.2.1
  have hl : lv_has ls 5 [(0, .ref (a 0)), (1, .int p0), (2, .int p1)] := hl
  replace hR := (D_X5_unit_s).symm.trans hR
  refine lv_aload_n hx hb dX5_unit_0 rfl (lv_at hl 0 rfl) ?_
  refine lv_iload_n hx hb dX5_unit_1 rfl (lv_at hl 1 rfl) ?_
  obtain ⟨E2, x5, hd1⟩ := ex2 (D_X5_needTable r q f p0)
  replace hR := bnd2_use hd1 hR
  refine CX_after2 hX hB (run_XV (n := 1) (As := [.int p0]) (rest := []) hX hB (k_X5_needTable κ l hst a r q f p0 E2 x5 hd1) ⟨rfl, yk_X5_needTable⟩ wm_2_165 wm_2_167 wp_17 wm_1_1 wm_2_168 ⟨Nat.le_of_ble_eq_true rfl, Nat.le_of_ble_eq_true rfl⟩ ⟨Nat.le_of_ble_eq_true rfl, Nat.le_of_ble_eq_true rfl⟩ cw0 rfl rfl rfl hl.1 rfl (Nat.le_of_ble_eq_true rfl) dX5_unit_2) (fun E ce q9 w' H locs hp hB hce hcv hcl => ?_) (fun o w' H locs hp hB => ?_)
  · obtain ⟨he3, hE4, rfl⟩ := hp
    replace hR := ifn (ne_mt hE4 (by decide)) hR
    rw [← hQ]
    exact thrown_on hX hne hB hA3 hce hcv hcl (by obtain ⟨rfl, rfl, rfl, rfl, rfl⟩ := pr5 hR; exact ⟨he3, ((by decide : ∀ x ∈ (["java/lang/IndexOutOfBoundsException"] : List String), x ∈ (["java/lang/IndexOutOfBoundsException", "java/lang/IllegalArgumentException"] : List String)) _ hE4), (fun h => h), rfl, rfl⟩) (Nat.le_of_ble_eq_true rfl) (Nat.le_of_ble_eq_true rfl)
  obtain ⟨he3, hx5, rfl, rfl⟩ := hp
  replace hR := ifp he3 hR
  refine W.eq (g2 := F0 m 5 ls [.ref (a (6 + 2 * x5))]) rfl ?_
  refine lv_astore_n (lv' := [(3, .ref (a (6 + 2 * x5))), (0, .ref (a 0)), (1, .int p0), (2, .int p1)]) hx hb dX5_unit_5 rfl hl (by decide) rfl (fun ls hl => ?_)
  refine lv_iload_n hx hb dX5_unit_6 rfl (lv_at hl 3 rfl) ?_
  obtain ⟨x6, hd7⟩ := ex1 (D_X5_isCount p1)
  replace hR := bnd1_use hd7 hR
  refine call_S (n := 1) (As := [.int p1]) (rest := []) hX hB (k_X5_isCount κ l (cw κ a r q f) p1  x6 hd7) yk_X5_isCount wm_2_237 wm_2_238 wm_1_1 wm_2_239 ⟨Nat.le_of_ble_eq_true rfl, Nat.le_of_ble_eq_true rfl⟩ ⟨Nat.le_of_ble_eq_true rfl, Nat.le_of_ble_eq_true rfl⟩ rfl hl.1 rfl (Nat.le_of_ble_eq_true rfl) dX5_unit_7 (fun o w' H locs hp hB => ?_)
  obtain ⟨rfl, bx6, hw9⟩ := hp
  rw [hw9] at hB
  refine W.eq (g2 := F0 m 10 ls [.int x6]) rfl ?_
  obtain ⟨E9, hd8⟩ := ex1 (D_X5_needArgument r q f x6)
  replace hR := bnd1_use hd8 hR
  refine CX_after2 hX hB (run_XS (n := 1) (As := [.int x6]) (rest := []) hX hB (k_X5_needArgument κ l hst a r q f x6 E9 hd8) yk_X5_needArgument wm_3_0 wm_3_1 wm_1_1 wm_3_2 ⟨Nat.le_of_ble_eq_true rfl, Nat.le_of_ble_eq_true rfl⟩ ⟨Nat.le_of_ble_eq_true rfl, Nat.le_of_ble_eq_true rfl⟩ rfl hl.1 rfl (Nat.le_of_ble_eq_true rfl) dX5_unit_10) (fun E ce q9 w' H locs hp hB hce hcv hcl => ?_) (fun o w' H locs hp hB => ?_)
  · obtain ⟨he10, hE11, rfl⟩ := hp
    replace hR := ifn (ne_mt hE11 (by decide)) hR
    rw [← hQ]
    exact thrown_on hX hne hB hA3 hce hcv hcl (by obtain ⟨rfl, rfl, rfl, rfl, rfl⟩ := pr5 hR; exact ⟨he10, ((by decide : ∀ x ∈ (["java/lang/IllegalArgumentException"] : List String), x ∈ (["java/lang/IndexOutOfBoundsException", "java/lang/IllegalArgumentException"] : List String)) _ hE11), (fun h => h), rfl, rfl⟩) (Nat.le_of_ble_eq_true rfl) (Nat.le_of_ble_eq_true rfl)
  obtain ⟨he10, rfl, rfl⟩ := hp
  replace hR := ifp he10 hR
  refine W.eq (g2 := F0 m 13 ls []) rfl ?_
  refine lv_aload_n hx hb dX5_unit_13 rfl (lv_at hl 0 rfl) ?_
  obtain ⟨x13, hd12⟩ := ex1 (D_X3_countFilled r q f x5)
  replace hR := bnd1_use hd12 hR
  refine call_V (n := 0) (As := []) (rest := []) hX hB (k_X3_countFilled κ l a r q f x5 (lt15 hx5) x13 hd12) ⟨rfl, yk_X3_countFilled⟩ wm_3_19 wm_3_20 wm_3_21 wm_1_2 wm_3_22 ⟨Nat.le_of_ble_eq_true rfl, Nat.le_of_ble_eq_true rfl⟩ ⟨Nat.le_of_ble_eq_true rfl, Nat.le_of_ble_eq_true rfl⟩ (cwG (i := x5) (lt15 hx5)) rfl rfl rfl hl.1 rfl (Nat.le_of_ble_eq_true rfl) dX5_unit_14 (fun o w' H locs hp hB => ?_)
  obtain ⟨rfl, rfl⟩ := hp
  refine W.eq (g2 := F0 m 17 ls [.int x13]) rfl ?_
  refine lv_istore (lv' := [(4, .int x13), (3, .ref (a (6 + 2 * x5))), (0, .ref (a 0)), (1, .int p0), (2, .int p1)]) hx hb dX5_unit_17 hl (by decide) rfl (fun ls hl => ?_)
  refine lv_aload_n hx hb dX5_unit_19 rfl (lv_at hl 1 rfl) ?_
  refine lv_iload_n hx hb dX5_unit_20 rfl (lv_at hl 4 rfl) ?_
  obtain ⟨r15, q17, f19, hd14⟩ := ex3 (D_X3_becomeUnit r q f x5 p1)
  replace hR := bnd3_use hd14 hR
  refine call_V (n := 1) (As := [.int p1]) (rest := []) hX hB (k_X3_becomeUnit κ l a r q f x5 p1 (lt15 hx5) r15 q17 f19 hd14) ⟨rfl, yk_X3_becomeUnit⟩ wm_3_35 wm_1_209 wm_1_210 wm_1_2 wm_1_211 ⟨Nat.le_of_ble_eq_true rfl, Nat.le_of_ble_eq_true rfl⟩ ⟨Nat.le_of_ble_eq_true rfl, Nat.le_of_ble_eq_true rfl⟩ (cwG (i := x5) (lt15 hx5)) rfl rfl rfl hl.1 rfl (Nat.le_of_ble_eq_true rfl) dX5_unit_21 (fun o w' H locs hp hB => ?_)
  obtain ⟨rfl, ho16, hq18, rfl⟩ := hp
  refine W.eq (g2 := F0 m 24 ls []) rfl ?_
  refine lv_aload_n hx hb dX5_unit_24 rfl (lv_at hl 2 rfl) ?_
  refine lv_iload hx hb dX5_unit_25 (lv_at hl 0 rfl) ?_
  obtain ⟨x21, q22, f24, hd20⟩ := ex3 (D_X5_tellDone r15 q17 f19 x13)
  replace hR := bnd3_use hd20 hR
  refine call_V (n := 1) (As := [.int x13]) (rest := []) hX hB (k_X5_tellDone κ l a r15 q17 f19 x13 x21 q22 f24 hd20) ⟨rfl, yk_X5_tellDone⟩ wm_3_24 wm_3_26 wp_19 wm_1_1 wm_3_27 ⟨Nat.le_of_ble_eq_true rfl, Nat.le_of_ble_eq_true rfl⟩ ⟨Nat.le_of_ble_eq_true rfl, Nat.le_of_ble_eq_true rfl⟩ cw0 rfl rfl rfl hl.1 rfl (Nat.le_of_ble_eq_true rfl) dX5_unit_27 (fun o w' H locs hp hB => ?_)
  obtain ⟨rfl, hq23, rfl⟩ := hp
  refine W.eq (g2 := F0 m 30 ls [.int x21]) rfl ?_
  rw [← hQ]
  exact vx_ret ( end_i hX hB hA3 rfl rfl (by obtain ⟨rfl, rfl, rfl, rfl, rfl⟩ := pr5 hR; exact ⟨rfl, rfl, (fun h => ho16 ((fun h => h) h)), (hq23.trans (hq18.trans rfl)), rfl⟩) (Nat.le_of_ble_eq_true rfl) (Nat.le_of_ble_eq_true rfl) dX5_unit_30)
noncomputable def D_X5_put_j99 (r : Nat → Int32) (q : Nat → Int32) (f26 : Nat → Nat → Int64) (z0_99 : Int32) : String × Int32 × (Nat → Int32) × (Nat → Int32) × (Nat → Nat → Int64) := bnd3 (D_X5_tellDone r q f26 z0_99) (fun (x29 : Int32) (q30 : Nat → Int32) (f32 : Nat → Nat → Int64) => ("", x29, r, q30, f32))
theorem D_X5_put_j99_s {r : Nat → Int32} {q : Nat → Int32} {f26 : Nat → Nat → Int64} {z0_99 : Int32} : D_X5_put_j99 r q f26 z0_99 = bnd3 (D_X5_tellDone r q f26 z0_99) (fun (x29 : Int32) (q30 : Nat → Int32) (f32 : Nat → Nat → Int64) => ("", x29, r, q30, f32)) := rfl
noncomputable def D_X5_put_j76 (r : Nat → Int32) (q : Nat → Int32) (f : Nat → Nat → Int64) (p1 : Int32) (p2 : Int32) (p3 : Int32) (x5 : Nat) (z0_76 : Int32) : String × Int32 × (Nat → Int32) × (Nat → Int32) × (Nat → Nat → Int64) := bnd1 (D_X3_set r q f x5 p1 p2 ((p3).toInt64)) (fun (f26 : Nat → Nat → Int64) => (if z0_76 = 0 then (D_X5_put_j99 r q f26 0) else (D_X5_put_j99 r q f26 1)))
theorem D_X5_put_j76_s {r : Nat → Int32} {q : Nat → Int32} {f : Nat → Nat → Int64} {p1 : Int32} {p2 : Int32} {p3 : Int32} {x5 : Nat} {z0_76 : Int32} : D_X5_put_j76 r q f p1 p2 p3 x5 z0_76 = bnd1 (D_X3_set r q f x5 p1 p2 ((p3).toInt64)) (fun (f26 : Nat → Nat → Int64) => (if z0_76 = 0 then (D_X5_put_j99 r q f26 0) else (D_X5_put_j99 r q f26 1))) := rfl
noncomputable def D_X5_put_j54 (r : Nat → Int32) (q : Nat → Int32) (f : Nat → Nat → Int64) (p1 : Int32) (p2 : Int32) (p3 : Int32) (x5 : Nat) (z0_54 : Int32) : String × Int32 × (Nat → Int32) × (Nat → Int32) × (Nat → Nat → Int64) := bnd1 (D_X5_needArgument r q f z0_54) (fun (E19 : String) => (if E19 = "" then bnd1 (D_X3_get r q f x5 p1 p2) (fun (x23 : Int64) => (if (lg_cmp x23 ((p3).toInt64)) = 0 then (D_X5_put_j76 r q f p1 p2 p3 x5 0) else (D_X5_put_j76 r q f p1 p2 p3 x5 1))) else (E19, 0, r, q, f)))
theorem D_X5_put_j54_s {r : Nat → Int32} {q : Nat → Int32} {f : Nat → Nat → Int64} {p1 : Int32} {p2 : Int32} {p3 : Int32} {x5 : Nat} {z0_54 : Int32} : D_X5_put_j54 r q f p1 p2 p3 x5 z0_54 = bnd1 (D_X5_needArgument r q f z0_54) (fun (E19 : String) => (if E19 = "" then bnd1 (D_X3_get r q f x5 p1 p2) (fun (x23 : Int64) => (if (lg_cmp x23 ((p3).toInt64)) = 0 then (D_X5_put_j76 r q f p1 p2 p3 x5 0) else (D_X5_put_j76 r q f p1 p2 p3 x5 1))) else (E19, 0, r, q, f))) := rfl
noncomputable def D_X5_put_j32 (r : Nat → Int32) (q : Nat → Int32) (f : Nat → Nat → Int64) (p1 : Int32) (p2 : Int32) (p3 : Int32) (x5 : Nat) (z0_32 : Int32) : String × Int32 × (Nat → Int32) × (Nat → Int32) × (Nat → Nat → Int64) := bnd1 (D_X5_needIndex r q f z0_32) (fun (E13 : String) => (if E13 = "" then (if p3 < (-20) then (D_X5_put_j54 r q f p1 p2 p3 x5 0) else (if 20 < p3 then (D_X5_put_j54 r q f p1 p2 p3 x5 0) else (D_X5_put_j54 r q f p1 p2 p3 x5 1))) else (E13, 0, r, q, f)))
theorem D_X5_put_j32_s {r : Nat → Int32} {q : Nat → Int32} {f : Nat → Nat → Int64} {p1 : Int32} {p2 : Int32} {p3 : Int32} {x5 : Nat} {z0_32 : Int32} : D_X5_put_j32 r q f p1 p2 p3 x5 z0_32 = bnd1 (D_X5_needIndex r q f z0_32) (fun (E13 : String) => (if E13 = "" then (if p3 < (-20) then (D_X5_put_j54 r q f p1 p2 p3 x5 0) else (if 20 < p3 then (D_X5_put_j54 r q f p1 p2 p3 x5 0) else (D_X5_put_j54 r q f p1 p2 p3 x5 1))) else (E13, 0, r, q, f))) := rfl
noncomputable def D_X5_put (r : Nat → Int32) (q : Nat → Int32) (f : Nat → Nat → Int64) (p0 : Int32) (p1 : Int32) (p2 : Int32) (p3 : Int32) : String × Int32 × (Nat → Int32) × (Nat → Int32) × (Nat → Nat → Int64) := bnd2 (D_X5_needTable r q f p0) (fun (E2 : String) (x5 : Nat) => (if E2 = "" then bnd1 (D_X3_hasLine r q f x5 0 p1) (fun (x7 : Int32) => (if x7 = 0 then (D_X5_put_j32 r q f p1 p2 p3 x5 0) else bnd1 (D_X3_hasLine r q f x5 1 p2) (fun (x39 : Int32) => (if x39 = 0 then (D_X5_put_j32 r q f p1 p2 p3 x5 0) else (D_X5_put_j32 r q f p1 p2 p3 x5 1))))) else (E2, 0, r, q, f)))
theorem D_X5_put_s {r : Nat → Int32} {q : Nat → Int32} {f : Nat → Nat → Int64} {p0 : Int32} {p1 : Int32} {p2 : Int32} {p3 : Int32} : D_X5_put r q f p0 p1 p2 p3 = bnd2 (D_X5_needTable r q f p0) (fun (E2 : String) (x5 : Nat) => (if E2 = "" then bnd1 (D_X3_hasLine r q f x5 0 p1) (fun (x7 : Int32) => (if x7 = 0 then (D_X5_put_j32 r q f p1 p2 p3 x5 0) else bnd1 (D_X3_hasLine r q f x5 1 p2) (fun (x39 : Int32) => (if x39 = 0 then (D_X5_put_j32 r q f p1 p2 p3 x5 0) else (D_X5_put_j32 r q f p1 p2 p3 x5 1))))) else (E2, 0, r, q, f))) := rfl
set_option maxHeartbeats 4000000 in
set_option maxRecDepth 100000 in
theorem k_X5_put (κ : Kt) (l : Launch) (hst : l.stackTraces = false) (a : Nat → Nat) (r q : Nat → Int32) (f : Nat → Nat → Int64) (p0 : Int32) (p1 : Int32) (p2 : Int32) (p3 : Int32)  (o_E : String) (o_x : Int32) (o_r : Nat → Int32) (o_q : Nat → Int32) (o_f : Nat → Nat → Int64) (hR : D_X5_put r q f p0 p1 p2 p3 = (o_E, o_x, o_r, o_q, o_f)) : CX κ l yX5_put cX5_put 7 (some .int) 7 111 3 18 [.ref (a 0), .int p0, .int p1, .int p2, .int p3] (cw κ a r q f) (fun o w' => o_E = "" ∧ o = some (.int o_x) ∧ (okr r → okr o_r) ∧ o_q 4 = q 4 ∧ w' = cw κ a o_r o_q o_f) (fun E w' => o_E = E ∧ o_E ∈ (["java/lang/IndexOutOfBoundsException", "java/lang/IllegalArgumentException"] : List String) ∧ (okr r → okr o_r) ∧ o_q 4 = q 4 ∧ w' = cw κ a o_r o_q o_f) := by
  refine CX_begin (by decide) (Nat.le_of_ble_eq_true rfl) ?_
  intro p e s m args below meth c A Q hX hne hA3 hQ hB ls hl
  have hx := hX.1.1
  have hb := hX.1.2.1
  have hl : lv_has ls 7 [(0, .ref (a 0)), (1, .int p0), (2, .int p1), (3, .int p2), (4, .int p3)] := hl
  replace hR := (D_X5_put_s).symm.trans hR
  refine lv_aload_n hx hb dX5_put_0 rfl (lv_at hl 0 rfl) ?_
  refine lv_iload_n hx hb dX5_put_1 rfl (lv_at hl 1 rfl) ?_
  obtain ⟨E2, x5, hd1⟩ := ex2 (D_X5_needTable r q f p0)
  replace hR := bnd2_use hd1 hR
  refine CX_after2 hX hB (run_XV (n := 1) (As := [.int p0]) (rest := []) hX hB (k_X5_needTable κ l hst a r q f p0 E2 x5 hd1) ⟨rfl, yk_X5_needTable⟩ wm_2_165 wm_2_167 wp_17 wm_1_1 wm_2_168 ⟨Nat.le_of_ble_eq_true rfl, Nat.le_of_ble_eq_true rfl⟩ ⟨Nat.le_of_ble_eq_true rfl, Nat.le_of_ble_eq_true rfl⟩ cw0 rfl rfl rfl hl.1 rfl (Nat.le_of_ble_eq_true rfl) dX5_put_2) (fun E ce q9 w' H locs hp hB hce hcv hcl => ?_) (fun o w' H locs hp hB => ?_)
  · obtain ⟨he3, hE4, rfl⟩ := hp
    replace hR := ifn (ne_mt hE4 (by decide)) hR
    rw [← hQ]
    exact thrown_on hX hne hB hA3 hce hcv hcl (by obtain ⟨rfl, rfl, rfl, rfl, rfl⟩ := pr5 hR; exact ⟨he3, ((by decide : ∀ x ∈ (["java/lang/IndexOutOfBoundsException"] : List String), x ∈ (["java/lang/IndexOutOfBoundsException", "java/lang/IllegalArgumentException"] : List String)) _ hE4), (fun h => h), rfl, rfl⟩) (Nat.le_of_ble_eq_true rfl) (Nat.le_of_ble_eq_true rfl)
  obtain ⟨he3, hx5, rfl, rfl⟩ := hp
  replace hR := ifp he3 hR
  refine W.eq (g2 := F0 m 5 ls [.ref (a (6 + 2 * x5))]) rfl ?_
  refine lv_astore (lv' := [(5, .ref (a (6 + 2 * x5))), (0, .ref (a 0)), (1, .int p0), (2, .int p1), (3, .int p2), (4, .int p3)]) hx hb dX5_put_5 hl (by decide) rfl (fun ls hl => ?_)
  refine lv_aload hx hb dX5_put_7 (lv_at hl 0 rfl) ?_
  refine lv_iconst (v := 0) hx hb dX5_put_9 (by decide) ?_
  refine lv_iload_n hx hb dX5_put_10 rfl (lv_at hl 3 rfl) ?_
  obtain ⟨x7, hd6⟩ := ex1 (D_X3_hasLine r q f x5 0 p1)
  replace hR := bnd1_use hd6 hR
  refine call_V (n := 2) (As := [.int 0, .int p1]) (rest := []) hX hB (k_X3_hasLine κ l a r q f x5 0 p1 (lt15 hx5) x7 hd6) ⟨rfl, yk_X3_hasLine⟩ wm_3_43 wm_3_44 wm_3_45 wm_1_2 wm_3_46 ⟨Nat.le_of_ble_eq_true rfl, Nat.le_of_ble_eq_true rfl⟩ ⟨Nat.le_of_ble_eq_true rfl, Nat.le_of_ble_eq_true rfl⟩ (cwG (i := x5) (lt15 hx5)) rfl rfl rfl hl.1 rfl (Nat.le_of_ble_eq_true rfl) dX5_put_11 (fun o w' H locs hp hB => ?_)
  obtain ⟨rfl, bx7, rfl⟩ := hp
  refine W.eq (g2 := F0 m 14 ls [.int x7]) rfl ?_
  have jn32 : ∀ (z0_32 : Int32) (H : Heap) (locs : List Loc), (z0_32 = 0 ∨ z0_32 = 1) → D_X5_put_j32 r q f p1 p2 p3 x5 z0_32 = (o_E, o_x, o_r, o_q, o_f) → Bd κ A s (cw κ a r q f) H locs → ∀ ls : Array Slot, lv_has ls 7 [(5, .ref (a (6 + 2 * x5))), (0, .ref (a 0)), (1, .int p0), (2, .int p1), (3, .int p2), (4, .int p3)] → W p l e (Rm 7 111 3 18) s m args below meth c H locs 1 6 Q (F0 m 32 ls [.int z0_32]) := by
    intro z0_32 H locs hz0_32 hR hB ls hl
    replace hR := (D_X5_put_j32_s).symm.trans hR
    obtain ⟨E13, hd12⟩ := ex1 (D_X5_needIndex r q f z0_32)
    replace hR := bnd1_use hd12 hR
    refine CX_after2 hX hB (run_XS (n := 1) (As := [.int z0_32]) (rest := []) hX hB (k_X5_needIndex κ l hst a r q f z0_32 E13 hd12) yk_X5_needIndex wm_3_47 wm_3_48 wm_1_1 wm_3_49 ⟨Nat.le_of_ble_eq_true rfl, Nat.le_of_ble_eq_true rfl⟩ ⟨Nat.le_of_ble_eq_true rfl, Nat.le_of_ble_eq_true rfl⟩ rfl hl.1 rfl (Nat.le_of_ble_eq_true rfl) dX5_put_32) (fun E ce q9 w' H locs hp hB hce hcv hcl => ?_) (fun o w' H locs hp hB => ?_)
    · obtain ⟨he14, hE15, rfl⟩ := hp
      replace hR := ifn (ne_mt hE15 (by decide)) hR
      rw [← hQ]
      exact thrown_on hX hne hB hA3 hce hcv hcl (by obtain ⟨rfl, rfl, rfl, rfl, rfl⟩ := pr5 hR; exact ⟨he14, ((by decide : ∀ x ∈ (["java/lang/IndexOutOfBoundsException"] : List String), x ∈ (["java/lang/IndexOutOfBoundsException", "java/lang/IllegalArgumentException"] : List String)) _ hE15), (fun h => h), rfl, rfl⟩) (Nat.le_of_ble_eq_true rfl) (Nat.le_of_ble_eq_true rfl)
    obtain ⟨he14, rfl, rfl⟩ := hp
    replace hR := ifp he14 hR
    refine W.eq (g2 := F0 m 35 ls []) rfl ?_
    refine lv_iload hx hb dX5_put_35 (lv_at hl 5 rfl) ?_
    refine lv_bipush (v := (-20)) hx hb dX5_put_37 (by decide) ?_
    have jn54 : ∀ (z0_54 : Int32) (H : Heap) (locs : List Loc), (z0_54 = 0 ∨ z0_54 = 1) → D_X5_put_j54 r q f p1 p2 p3 x5 z0_54 = (o_E, o_x, o_r, o_q, o_f) → Bd κ A s (cw κ a r q f) H locs → ∀ ls : Array Slot, lv_has ls 7 [(5, .ref (a (6 + 2 * x5))), (0, .ref (a 0)), (1, .int p0), (2, .int p1), (3, .int p2), (4, .int p3)] → W p l e (Rm 7 111 3 18) s m args below meth c H locs 2 12 Q (F0 m 54 ls [.int z0_54]) := by
      intro z0_54 H locs hz0_54 hR hB ls hl
      replace hR := (D_X5_put_j54_s).symm.trans hR
      obtain ⟨E19, hd18⟩ := ex1 (D_X5_needArgument r q f z0_54)
      replace hR := bnd1_use hd18 hR
      refine CX_after2 hX hB (run_XS (n := 1) (As := [.int z0_54]) (rest := []) hX hB (k_X5_needArgument κ l hst a r q f z0_54 E19 hd18) yk_X5_needArgument wm_3_0 wm_3_1 wm_1_1 wm_3_2 ⟨Nat.le_of_ble_eq_true rfl, Nat.le_of_ble_eq_true rfl⟩ ⟨Nat.le_of_ble_eq_true rfl, Nat.le_of_ble_eq_true rfl⟩ rfl hl.1 rfl (Nat.le_of_ble_eq_true rfl) dX5_put_54) (fun E ce q9 w' H locs hp hB hce hcv hcl => ?_) (fun o w' H locs hp hB => ?_)
      · obtain ⟨he20, hE21, rfl⟩ := hp
        replace hR := ifn (ne_mt hE21 (by decide)) hR
        rw [← hQ]
        exact thrown_on hX hne hB hA3 hce hcv hcl (by obtain ⟨rfl, rfl, rfl, rfl, rfl⟩ := pr5 hR; exact ⟨he20, ((by decide : ∀ x ∈ (["java/lang/IllegalArgumentException"] : List String), x ∈ (["java/lang/IndexOutOfBoundsException", "java/lang/IllegalArgumentException"] : List String)) _ hE21), (fun h => h), rfl, rfl⟩) (Nat.le_of_ble_eq_true rfl) (Nat.le_of_ble_eq_true rfl)
      obtain ⟨he20, rfl, rfl⟩ := hp
      replace hR := ifp he20 hR
      refine W.eq (g2 := F0 m 57 ls []) rfl ?_
      refine lv_aload hx hb dX5_put_57 (lv_at hl 0 rfl) ?_
      refine lv_iload_n hx hb dX5_put_59 rfl (lv_at hl 3 rfl) ?_
      refine lv_iload_n hx hb dX5_put_60 rfl (lv_at hl 4 rfl) ?_
      obtain ⟨x23, hd22⟩ := ex1 (D_X3_get r q f x5 p1 p2)
      replace hR := bnd1_use hd22 hR
      refine call_V (n := 2) (As := [.int p1, .int p2]) (rest := []) hX hB (k_X3_get κ l a r q f x5 p1 p2 (lt15 hx5) x23 hd22) ⟨rfl, yk_X3_get⟩ wm_2_123 wm_1_187 wm_1_188 wm_1_2 wm_1_189 ⟨Nat.le_of_ble_eq_true rfl, Nat.le_of_ble_eq_true rfl⟩ ⟨Nat.le_of_ble_eq_true rfl, Nat.le_of_ble_eq_true rfl⟩ (cwG (i := x5) (lt15 hx5)) rfl rfl rfl hl.1 rfl (Nat.le_of_ble_eq_true rfl) dX5_put_61 (fun o w' H locs hp hB => ?_)
      obtain ⟨rfl, rfl⟩ := hp
      refine W.eq (g2 := F0 m 64 ls [.long x23]) rfl ?_
      refine lv_iload hx hb dX5_put_64 (lv_at hl 5 rfl) ?_
      refine lv_i2l hx hb dX5_put_66 rfl ?_
      refine W.lcmp hx hb dX5_put_67 ?_
      have jn76 : ∀ (z0_76 : Int32) (H : Heap) (locs : List Loc), (z0_76 = 0 ∨ z0_76 = 1) → D_X5_put_j76 r q f p1 p2 p3 x5 z0_76 = (o_E, o_x, o_r, o_q, o_f) → Bd κ A s (cw κ a r q f) H locs → ∀ ls : Array Slot, lv_has ls 7 [(5, .ref (a (6 + 2 * x5))), (0, .ref (a 0)), (1, .int p0), (2, .int p1), (3, .int p2), (4, .int p3)] → W p l e (Rm 7 111 3 18) s m args below meth c H locs 3 18 Q (F0 m 76 ls [.int z0_76]) := by
        intro z0_76 H locs hz0_76 hR hB ls hl
        replace hR := (D_X5_put_j76_s).symm.trans hR
        refine lv_istore (lv' := [(6, .int z0_76), (5, .ref (a (6 + 2 * x5))), (0, .ref (a 0)), (1, .int p0), (2, .int p1), (3, .int p2), (4, .int p3)]) hx hb dX5_put_76 hl (by decide) rfl (fun ls hl => ?_)
        refine lv_aload hx hb dX5_put_78 (lv_at hl 1 rfl) ?_
        refine lv_iload_n hx hb dX5_put_80 rfl (lv_at hl 4 rfl) ?_
        refine lv_iload_n hx hb dX5_put_81 rfl (lv_at hl 5 rfl) ?_
        refine lv_iload hx hb dX5_put_82 (lv_at hl 6 rfl) ?_
        refine lv_i2l hx hb dX5_put_84 rfl ?_
        obtain ⟨f26, hd25⟩ := ex1 (D_X3_set r q f x5 p1 p2 ((p3).toInt64))
        replace hR := bnd1_use hd25 hR
        refine call_V (n := 3) (As := [.int p1, .int p2, .long ((p3).toInt64)]) (rest := []) hX hB (k_X3_set κ l a r q f x5 p1 p2 ((p3).toInt64) (lt15 hx5) f26 hd25) ⟨rfl, yk_X3_set⟩ wm_3_51 wm_1_223 wm_1_224 wm_1_2 wm_1_225 ⟨Nat.le_of_ble_eq_true rfl, Nat.le_of_ble_eq_true rfl⟩ ⟨Nat.le_of_ble_eq_true rfl, Nat.le_of_ble_eq_true rfl⟩ (cwG (i := x5) (lt15 hx5)) rfl rfl rfl hl.1 rfl (Nat.le_of_ble_eq_true rfl) dX5_put_85 (fun o w' H locs hp hB => ?_)
        obtain ⟨rfl, rfl⟩ := hp
        refine W.eq (g2 := F0 m 88 ls []) rfl ?_
        refine lv_aload_n hx hb dX5_put_88 rfl (lv_at hl 2 rfl) ?_
        refine lv_iload hx hb dX5_put_89 (lv_at hl 0 rfl) ?_
        have jn99 : ∀ (z0_99 : Int32) (H : Heap) (locs : List Loc), (z0_99 = 0 ∨ z0_99 = 1) → D_X5_put_j99 r q f26 z0_99 = (o_E, o_x, o_r, o_q, o_f) → Bd κ A s (cw κ a r q f26) H locs → ∀ ls : Array Slot, lv_has ls 7 [(6, .int z0_76), (5, .ref (a (6 + 2 * x5))), (0, .ref (a 0)), (1, .int p0), (2, .int p1), (3, .int p2), (4, .int p3)] → W p l e (Rm 7 111 3 18) s m args below meth c H locs 3 18 Q (F0 m 99 ls [.int z0_99, .ref (a 0)]) := by
          intro z0_99 H locs hz0_99 hR hB ls hl
          replace hR := (D_X5_put_j99_s).symm.trans hR
          obtain ⟨x29, q30, f32, hd28⟩ := ex3 (D_X5_tellDone r q f26 z0_99)
          replace hR := bnd3_use hd28 hR
          refine call_V (n := 1) (As := [.int z0_99]) (rest := []) hX hB (k_X5_tellDone κ l a r q f26 z0_99 x29 q30 f32 hd28) ⟨rfl, yk_X5_tellDone⟩ wm_3_24 wm_3_26 wp_19 wm_1_1 wm_3_27 ⟨Nat.le_of_ble_eq_true rfl, Nat.le_of_ble_eq_true rfl⟩ ⟨Nat.le_of_ble_eq_true rfl, Nat.le_of_ble_eq_true rfl⟩ cw0 rfl rfl rfl hl.1 rfl (Nat.le_of_ble_eq_true rfl) dX5_put_99 (fun o w' H locs hp hB => ?_)
          obtain ⟨rfl, hq31, rfl⟩ := hp
          refine W.eq (g2 := F0 m 102 ls [.int x29]) rfl ?_
          rw [← hQ]
          exact vx_ret ( end_i hX hB hA3 rfl rfl (by obtain ⟨rfl, rfl, rfl, rfl, rfl⟩ := pr5 hR; exact ⟨rfl, rfl, (fun h => h), (hq31.trans rfl), rfl⟩) (Nat.le_of_ble_eq_true rfl) (Nat.le_of_ble_eq_true rfl) dX5_put_102)
        refine lv_if_eq (tgt := 98) hx hb dX5_put_91 (by decide) (fun c33 => ?_) (fun c33 => ?_)
        · replace hR := ifp c33 hR
          refine lv_iconst (v := 0) hx hb dX5_put_98 (by decide) ?_
          exact jn99 0 _ _ (Or.inl rfl) hR hB _ hl
        · replace hR := ifn c33 hR
          refine lv_iconst (v := 1) hx hb dX5_put_94 (by decide) ?_
          refine lv_goto (tgt := 99) hx hb dX5_put_95 (by decide) ?_
          exact jn99 1 _ _ (Or.inr rfl) hR hB _ hl
      refine lv_if_eq (tgt := 75) hx hb dX5_put_68 (by decide) (fun c34 => ?_) (fun c34 => ?_)
      · replace hR := ifp c34 hR
        refine lv_iconst (v := 0) hx hb dX5_put_75 (by decide) ?_
        exact jn76 0 _ _ (Or.inl rfl) hR hB _ hl
      · replace hR := ifn c34 hR
        refine lv_iconst (v := 1) hx hb dX5_put_71 (by decide) ?_
        refine lv_goto (tgt := 76) hx hb dX5_put_72 (by decide) ?_
        exact jn76 1 _ _ (Or.inr rfl) hR hB _ hl
    refine lv_icmp_lt (tgt := 53) hx hb dX5_put_39 (by decide) (fun c35 => ?_) (fun c35 => ?_)
    · replace hR := ifp c35 hR
      refine lv_iconst (v := 0) hx hb dX5_put_53 (by decide) ?_
      exact jn54 0 _ _ (Or.inl rfl) hR hB _ hl
    · replace hR := ifn c35 hR
      refine lv_iload hx hb dX5_put_42 (lv_at hl 5 rfl) ?_
      refine lv_bipush (v := 20) hx hb dX5_put_44 (by decide) ?_
      refine lv_icmp_gt (tgt := 53) hx hb dX5_put_46 (by decide) (fun c36 => ?_) (fun c36 => ?_)
      · replace hR := ifp c36 hR
        refine lv_iconst (v := 0) hx hb dX5_put_53 (by decide) ?_
        exact jn54 0 _ _ (Or.inl rfl) hR hB _ hl
      · replace hR := ifn c36 hR
        refine lv_iconst (v := 1) hx hb dX5_put_49 (by decide) ?_
        refine lv_goto (tgt := 54) hx hb dX5_put_50 (by decide) ?_
        exact jn54 1 _ _ (Or.inr rfl) hR hB _ hl
  refine lv_if_eq (tgt := 31) hx hb dX5_put_14 (by decide) (fun c37 => ?_) (fun c37 => ?_)
  · replace hR := ifp c37 hR
    refine lv_iconst (v := 0) hx hb dX5_put_31 (by decide) ?_
    exact jn32 0 _ _ (Or.inl rfl) hR hB _ hl
  · replace hR := ifn c37 hR
    refine lv_aload hx hb dX5_put_17 (lv_at hl 0 rfl) ?_
    refine lv_iconst (v := 1) hx hb dX5_put_19 (by decide) ?_
    refine lv_iload_n hx hb dX5_put_20 rfl (lv_at hl 4 rfl) ?_
    obtain ⟨x39, hd38⟩ := ex1 (D_X3_hasLine r q f x5 1 p2)
    replace hR := bnd1_use hd38 hR
    refine call_V (n := 2) (As := [.int 1, .int p2]) (rest := []) hX hB (k_X3_hasLine κ l a r q f x5 1 p2 (lt15 hx5) x39 hd38) ⟨rfl, yk_X3_hasLine⟩ wm_3_43 wm_3_44 wm_3_45 wm_1_2 wm_3_46 ⟨Nat.le_of_ble_eq_true rfl, Nat.le_of_ble_eq_true rfl⟩ ⟨Nat.le_of_ble_eq_true rfl, Nat.le_of_ble_eq_true rfl⟩ (cwG (i := x5) (lt15 hx5)) rfl rfl rfl hl.1 rfl (Nat.le_of_ble_eq_true rfl) dX5_put_21 (fun o w' H locs hp hB => ?_)
    obtain ⟨rfl, bx39, rfl⟩ := hp
    refine W.eq (g2 := F0 m 24 ls [.int x39]) rfl ?_
    refine lv_if_eq (tgt := 31) hx hb dX5_put_24 (by decide) (fun c40 => ?_) (fun c40 => ?_)
    · replace hR := ifp c40 hR
      refine lv_iconst (v := 0) hx hb dX5_put_31 (by decide) ?_
      exact jn32 0 _ _ (Or.inl rfl) hR hB _ hl
    · replace hR := ifn c40 hR
      refine lv_iconst (v := 1) hx hb dX5_put_27 (by decide) ?_
      refine lv_goto (tgt := 32) hx hb dX5_put_28 (by decide) ?_
      exact jn32 1 _ _ (Or.inr rfl) hR hB _ hl
noncomputable def D_X5_sow_54 (r : Nat → Int32) (q : Nat → Int32) (p2 : Int32) (x5 : Nat) (lb41 : Int32 → Int32 → (Nat → Nat → Int64) → String × Int32 × (Nat → Int32) × (Nat → Int32) × (Nat → Nat → Int64)) (y6_41 : Int32) (nn : Nat) : Int32 → Int32 → (Nat → Nat → Int64) → String × Int32 × (Nat → Int32) × (Nat → Int32) × (Nat → Nat → Int64) := @Nat.rec (fun _ => Int32 → Int32 → (Nat → Nat → Int64) → String × Int32 × (Nat → Int32) × (Nat → Int32) × (Nat → Nat → Int64)) (fun _ _ _ => default) (fun _ lb54 (y7_54 : Int32) (y5_54 : Int32) (f_54 : Nat → Nat → Int64) => (if (r (2 * x5 + 1)) ≤ y7_54 then (lb41 (y6_41 + 1) y5_54 f_54) else bnd1 (D_X5_remainder ((((((y5_54 * 25173) + 13849) - ((y5_54 * 25173) + 13849) / 65536 * 65536) / 64)).toInt64) ((((2 * p2) + 1)).toInt64)) (fun (x127 : Int64) => bnd1 (D_X3_set r q f_54 x5 y6_41 y7_54 (x127 - ((p2).toInt64))) (fun (f130 : Nat → Nat → Int64) => (lb54 (y7_54 + 1) (((y5_54 * 25173) + 13849) - ((y5_54 * 25173) + 13849) / 65536 * 65536) f130))))) nn
theorem D_X5_sow_54_s {r : Nat → Int32} {q : Nat → Int32} {p2 : Int32} {x5 : Nat} {lb41 : Int32 → Int32 → (Nat → Nat → Int64) → String × Int32 × (Nat → Int32) × (Nat → Int32) × (Nat → Nat → Int64)} {y6_41 : Int32} {nn : Nat} {y7_54 : Int32} {y5_54 : Int32} {f_54 : Nat → Nat → Int64} : D_X5_sow_54 r q p2 x5 lb41 y6_41 (nn + 1) y7_54 y5_54 f_54 = (if (r (2 * x5 + 1)) ≤ y7_54 then (lb41 (y6_41 + 1) y5_54 f_54) else bnd1 (D_X5_remainder ((((((y5_54 * 25173) + 13849) - ((y5_54 * 25173) + 13849) / 65536 * 65536) / 64)).toInt64) ((((2 * p2) + 1)).toInt64)) (fun (x127 : Int64) => bnd1 (D_X3_set r q f_54 x5 y6_41 y7_54 (x127 - ((p2).toInt64))) (fun (f130 : Nat → Nat → Int64) => ((D_X5_sow_54 r q p2 x5 lb41 y6_41 nn) (y7_54 + 1) (((y5_54 * 25173) + 13849) - ((y5_54 * 25173) + 13849) / 65536 * 65536) f130)))) := rfl
noncomputable def D_X5_sow_41 (r : Nat → Int32) (q : Nat → Int32) (p2 : Int32) (x5 : Nat) (nn : Nat) : Int32 → Int32 → (Nat → Nat → Int64) → String × Int32 × (Nat → Int32) × (Nat → Int32) × (Nat → Nat → Int64) := @Nat.rec (fun _ => Int32 → Int32 → (Nat → Nat → Int64) → String × Int32 × (Nat → Int32) × (Nat → Int32) × (Nat → Nat → Int64)) (fun _ _ _ => default) (fun _ lb41 (y6_41 : Int32) (y5_41 : Int32) (f_41 : Nat → Nat → Int64) => (if (r (2 * x5)) ≤ y6_41 then bnd1 (D_X3_countFilled r q f_41 x5) (fun (x110 : Int32) => bnd3 (D_X5_tellDone r q f_41 (((r (2 * x5)) * (r (2 * x5 + 1))) - x110)) (fun (x112 : Int32) (q113 : Nat → Int32) (f115 : Nat → Nat → Int64) => ("", x112, r, q113, f115))) else (D_X5_sow_54 r q p2 x5 lb41 y6_41 (gap (r (2 * x5 + 1)) 0 + 1) 0 y5_41 f_41))) nn
theorem D_X5_sow_41_s {r : Nat → Int32} {q : Nat → Int32} {p2 : Int32} {x5 : Nat} {nn : Nat} {y6_41 : Int32} {y5_41 : Int32} {f_41 : Nat → Nat → Int64} : D_X5_sow_41 r q p2 x5 (nn + 1) y6_41 y5_41 f_41 = (if (r (2 * x5)) ≤ y6_41 then bnd1 (D_X3_countFilled r q f_41 x5) (fun (x110 : Int32) => bnd3 (D_X5_tellDone r q f_41 (((r (2 * x5)) * (r (2 * x5 + 1))) - x110)) (fun (x112 : Int32) (q113 : Nat → Int32) (f115 : Nat → Nat → Int64) => ("", x112, r, q113, f115))) else (D_X5_sow_54 r q p2 x5 (D_X5_sow_41 r q p2 x5 nn) y6_41 (gap (r (2 * x5 + 1)) 0 + 1) 0 y5_41 f_41)) := rfl
noncomputable def D_X5_sow_j32 (r : Nat → Int32) (q : Nat → Int32) (f : Nat → Nat → Int64) (p1 : Int32) (p2 : Int32) (x5 : Nat) (z0_32 : Int32) : String × Int32 × (Nat → Int32) × (Nat → Int32) × (Nat → Nat → Int64) := bnd1 (D_X5_needArgument r q f z0_32) (fun (E11 : String) => (if E11 = "" then (D_X5_sow_41 r q p2 x5 (gap (r (2 * x5)) 0 + 1) 0 p1 f) else (E11, 0, r, q, f)))
theorem D_X5_sow_j32_s {r : Nat → Int32} {q : Nat → Int32} {f : Nat → Nat → Int64} {p1 : Int32} {p2 : Int32} {x5 : Nat} {z0_32 : Int32} : D_X5_sow_j32 r q f p1 p2 x5 z0_32 = bnd1 (D_X5_needArgument r q f z0_32) (fun (E11 : String) => (if E11 = "" then (D_X5_sow_41 r q p2 x5 (gap (r (2 * x5)) 0 + 1) 0 p1 f) else (E11, 0, r, q, f))) := rfl
noncomputable def D_X5_sow (r : Nat → Int32) (q : Nat → Int32) (f : Nat → Nat → Int64) (p0 : Int32) (p1 : Int32) (p2 : Int32) : String × Int32 × (Nat → Int32) × (Nat → Int32) × (Nat → Nat → Int64) := bnd2 (D_X5_needTable r q f p0) (fun (E2 : String) (x5 : Nat) => (if E2 = "" then (if p1 < 0 then (D_X5_sow_j32 r q f p1 p2 x5 0) else (if 65535 < p1 then (D_X5_sow_j32 r q f p1 p2 x5 0) else (if p2 < 0 then (D_X5_sow_j32 r q f p1 p2 x5 0) else (if 20 < p2 then (D_X5_sow_j32 r q f p1 p2 x5 0) else (D_X5_sow_j32 r q f p1 p2 x5 1))))) else (E2, 0, r, q, f)))
theorem D_X5_sow_s {r : Nat → Int32} {q : Nat → Int32} {f : Nat → Nat → Int64} {p0 : Int32} {p1 : Int32} {p2 : Int32} : D_X5_sow r q f p0 p1 p2 = bnd2 (D_X5_needTable r q f p0) (fun (E2 : String) (x5 : Nat) => (if E2 = "" then (if p1 < 0 then (D_X5_sow_j32 r q f p1 p2 x5 0) else (if 65535 < p1 then (D_X5_sow_j32 r q f p1 p2 x5 0) else (if p2 < 0 then (D_X5_sow_j32 r q f p1 p2 x5 0) else (if 20 < p2 then (D_X5_sow_j32 r q f p1 p2 x5 0) else (D_X5_sow_j32 r q f p1 p2 x5 1))))) else (E2, 0, r, q, f))) := rfl
set_option maxHeartbeats 4000000 in
set_option maxRecDepth 100000 in
theorem k_X5_sow (κ : Kt) (l : Launch) (hst : l.stackTraces = false) (a : Nat → Nat) (r q : Nat → Int32) (f : Nat → Nat → Int64) (p0 : Int32) (p1 : Int32) (p2 : Int32)  (o_E : String) (o_x : Int32) (o_r : Nat → Int32) (o_q : Nat → Int32) (o_f : Nat → Nat → Int64) (hR : D_X5_sow r q f p0 p1 p2 = (o_E, o_x, o_r, o_q, o_f)) : CX κ l yX5_sow cX5_sow 8 (some .int) 7 111 2 12 [.ref (a 0), .int p0, .int p1, .int p2] (cw κ a r q f) (fun o w' => o_E = "" ∧ o = some (.int o_x) ∧ (okr r → okr o_r) ∧ o_q 4 = q 4 ∧ w' = cw κ a o_r o_q o_f) (fun E w' => o_E = E ∧ o_E ∈ (["java/lang/IndexOutOfBoundsException", "java/lang/IllegalArgumentException"] : List String) ∧ (okr r → okr o_r) ∧ o_q 4 = q 4 ∧ w' = cw κ a o_r o_q o_f) := by
  refine CX_begin (by decide) (Nat.le_of_ble_eq_true rfl) ?_
  intro p e s m args below meth c A Q hX hne hA3 hQ hB ls hl
  have hx := hX.1.1
  have hb := hX.1.2.1
  have hl : lv_has ls 8 [(0, .ref (a 0)), (1, .int p0), (2, .int p1), (3, .int p2)] := hl
  replace hR := (D_X5_sow_s).symm.trans hR
  refine lv_aload_n hx hb dX5_sow_0 rfl (lv_at hl 0 rfl) ?_
  refine lv_iload_n hx hb dX5_sow_1 rfl (lv_at hl 1 rfl) ?_
  obtain ⟨E2, x5, hd1⟩ := ex2 (D_X5_needTable r q f p0)
  replace hR := bnd2_use hd1 hR
  refine CX_after2 hX hB (run_XV (n := 1) (As := [.int p0]) (rest := []) hX hB (k_X5_needTable κ l hst a r q f p0 E2 x5 hd1) ⟨rfl, yk_X5_needTable⟩ wm_2_165 wm_2_167 wp_17 wm_1_1 wm_2_168 ⟨Nat.le_of_ble_eq_true rfl, Nat.le_of_ble_eq_true rfl⟩ ⟨Nat.le_of_ble_eq_true rfl, Nat.le_of_ble_eq_true rfl⟩ cw0 rfl rfl rfl hl.1 rfl (Nat.le_of_ble_eq_true rfl) dX5_sow_2) (fun E ce q9 w' H locs hp hB hce hcv hcl => ?_) (fun o w' H locs hp hB => ?_)
  · obtain ⟨he3, hE4, rfl⟩ := hp
    replace hR := ifn (ne_mt hE4 (by decide)) hR
    rw [← hQ]
    exact thrown_on hX hne hB hA3 hce hcv hcl (by obtain ⟨rfl, rfl, rfl, rfl, rfl⟩ := pr5 hR; exact ⟨he3, ((by decide : ∀ x ∈ (["java/lang/IndexOutOfBoundsException"] : List String), x ∈ (["java/lang/IndexOutOfBoundsException", "java/lang/IllegalArgumentException"] : List String)) _ hE4), (fun h => h), rfl, rfl⟩) (Nat.le_of_ble_eq_true rfl) (Nat.le_of_ble_eq_true rfl)
  obtain ⟨he3, hx5, rfl, rfl⟩ := hp
  replace hR := ifp he3 hR
  refine W.eq (g2 := F0 m 5 ls [.ref (a (6 + 2 * x5))]) rfl ?_
  refine lv_astore (lv' := [(4, .ref (a (6 + 2 * x5))), (0, .ref (a 0)), (1, .int p0), (2, .int p1), (3, .int p2)]) hx hb dX5_sow_5 hl (by decide) rfl (fun ls hl => ?_)
  refine lv_iload_n hx hb dX5_sow_7 rfl (lv_at hl 3 rfl) ?_
  have jn32 : ∀ (z0_32 : Int32) (H : Heap) (locs : List Loc), (z0_32 = 0 ∨ z0_32 = 1) → D_X5_sow_j32 r q f p1 p2 x5 z0_32 = (o_E, o_x, o_r, o_q, o_f) → Bd κ A s (cw κ a r q f) H locs → ∀ ls : Array Slot, lv_has ls 8 [(4, .ref (a (6 + 2 * x5))), (0, .ref (a 0)), (1, .int p0), (2, .int p1), (3, .int p2)] → W p l e (Rm 7 111 2 12) s m args below meth c H locs 1 6 Q (F0 m 32 ls [.int z0_32]) := by
    intro z0_32 H locs hz0_32 hR hB ls hl
    replace hR := (D_X5_sow_j32_s).symm.trans hR
    obtain ⟨E11, hd10⟩ := ex1 (D_X5_needArgument r q f z0_32)
    replace hR := bnd1_use hd10 hR
    refine CX_after2 hX hB (run_XS (n := 1) (As := [.int z0_32]) (rest := []) hX hB (k_X5_needArgument κ l hst a r q f z0_32 E11 hd10) yk_X5_needArgument wm_3_0 wm_3_1 wm_1_1 wm_3_2 ⟨Nat.le_of_ble_eq_true rfl, Nat.le_of_ble_eq_true rfl⟩ ⟨Nat.le_of_ble_eq_true rfl, Nat.le_of_ble_eq_true rfl⟩ rfl hl.1 rfl (Nat.le_of_ble_eq_true rfl) dX5_sow_32) (fun E ce q9 w' H locs hp hB hce hcv hcl => ?_) (fun o w' H locs hp hB => ?_)
    · obtain ⟨he12, hE13, rfl⟩ := hp
      replace hR := ifn (ne_mt hE13 (by decide)) hR
      rw [← hQ]
      exact thrown_on hX hne hB hA3 hce hcv hcl (by obtain ⟨rfl, rfl, rfl, rfl, rfl⟩ := pr5 hR; exact ⟨he12, ((by decide : ∀ x ∈ (["java/lang/IllegalArgumentException"] : List String), x ∈ (["java/lang/IndexOutOfBoundsException", "java/lang/IllegalArgumentException"] : List String)) _ hE13), (fun h => h), rfl, rfl⟩) (Nat.le_of_ble_eq_true rfl) (Nat.le_of_ble_eq_true rfl)
    obtain ⟨he12, rfl, rfl⟩ := hp
    replace hR := ifp he12 hR
    refine W.eq (g2 := F0 m 35 ls []) rfl ?_
    refine lv_iload_n hx hb dX5_sow_35 rfl (lv_at hl 3 rfl) ?_
    refine lv_istore (lv' := [(5, .int p1), (4, .ref (a (6 + 2 * x5))), (0, .ref (a 0)), (1, .int p0), (2, .int p1), (3, .int p2)]) hx hb dX5_sow_36 hl (by decide) rfl (fun ls hl => ?_)
    refine lv_iconst (v := 0) hx hb dX5_sow_38 (by decide) ?_
    refine lv_istore (lv' := [(6, .int 0), (5, .int p1), (4, .ref (a (6 + 2 * x5))), (0, .ref (a 0)), (1, .int p0), (2, .int p1), (3, .int p2)]) hx hb dX5_sow_39 hl (by decide) rfl (fun ls hl => ?_)
    have lp41 : ∀ (nn41 : Nat) (y6_41 : Int32) (y5_41 : Int32) (f_41 : Nat → Nat → Int64) (H : Heap) (locs : List Loc), gap (r (2 * x5)) y6_41 < nn41 → D_X5_sow_41 r q p2 x5 nn41 y6_41 y5_41 f_41 = (o_E, o_x, o_r, o_q, o_f) → Bd κ A s (cw κ a r q f_41) H locs → ∀ ls : Array Slot, lv_has ls 8 [(6, .int y6_41), (5, .int y5_41), (4, .ref (a (6 + 2 * x5))), (0, .ref (a 0)), (1, .int p0), (2, .int p1), (3, .int p2)] → W p l e (Rm 7 111 2 12) s m args below meth c H locs 2 12 Q (F0 m 41 ls []) := by
      intro nn41
      induction nn41 with
      | zero => intro y6_41 y5_41 f_41 H locs hμ; exact absurd hμ (Nat.not_lt_zero _)
      | succ nn41 ih41 =>
        intro y6_41 y5_41 f_41 H locs hμ41 hR hB ls hl
        replace hR := (D_X5_sow_41_s).symm.trans hR
        refine lv_iload hx hb dX5_sow_41 (lv_at hl 0 rfl) ?_
        refine lv_aload hx hb dX5_sow_43 (lv_at hl 2 rfl) ?_
        refine gfN hX hB (cwG (i := x5) (lt15 hx5)) rfl in3 1 (by decide) wn_1_51 rfl rfl dX5_sow_45 ?_
        refine lv_icmp_ge (tgt := 118) hx hb dX5_sow_48 (by decide) (fun c108 => ?_) (fun c108 => ?_)
        · replace hR := ifp c108 hR
          refine lv_aload_n hx hb dX5_sow_118 rfl (lv_at hl 3 rfl) ?_
          refine lv_aload hx hb dX5_sow_119 (lv_at hl 2 rfl) ?_
          refine gfN hX hB (cwG (i := x5) (lt15 hx5)) rfl in3 1 (by decide) wn_1_51 rfl rfl dX5_sow_121 ?_
          refine lv_aload hx hb dX5_sow_124 (lv_at hl 2 rfl) ?_
          refine gfN hX hB (cwG (i := x5) (lt15 hx5)) rfl in3 2 (by decide) wn_1_57 rfl rfl dX5_sow_126 ?_
          refine lv_imul hx hb dX5_sow_129 ?_
          refine lv_aload hx hb dX5_sow_130 (lv_at hl 2 rfl) ?_
          obtain ⟨x110, hd109⟩ := ex1 (D_X3_countFilled r q f_41 x5)
          replace hR := bnd1_use hd109 hR
          refine call_V (n := 0) (As := []) (rest := [.int ((r (2 * x5)) * (r (2 * x5 + 1))), .ref (a 0)]) hX hB (k_X3_countFilled κ l a r q f_41 x5 (lt15 hx5) x110 hd109) ⟨rfl, yk_X3_countFilled⟩ wm_3_19 wm_3_20 wm_3_21 wm_1_2 wm_3_22 ⟨Nat.le_of_ble_eq_true rfl, Nat.le_of_ble_eq_true rfl⟩ ⟨Nat.le_of_ble_eq_true rfl, Nat.le_of_ble_eq_true rfl⟩ (cwG (i := x5) (lt15 hx5)) rfl rfl rfl hl.1 rfl (Nat.le_of_ble_eq_true rfl) dX5_sow_132 (fun o w' H locs hp hB => ?_)
          obtain ⟨rfl, rfl⟩ := hp
          refine W.eq (g2 := F0 m 135 ls [.int x110, .int ((r (2 * x5)) * (r (2 * x5 + 1))), .ref (a 0)]) rfl ?_
          refine lv_isub hx hb dX5_sow_135 ?_
          obtain ⟨x112, q113, f115, hd111⟩ := ex3 (D_X5_tellDone r q f_41 (((r (2 * x5)) * (r (2 * x5 + 1))) - x110))
          replace hR := bnd3_use hd111 hR
          refine call_V (n := 1) (As := [.int (((r (2 * x5)) * (r (2 * x5 + 1))) - x110)]) (rest := []) hX hB (k_X5_tellDone κ l a r q f_41 (((r (2 * x5)) * (r (2 * x5 + 1))) - x110) x112 q113 f115 hd111) ⟨rfl, yk_X5_tellDone⟩ wm_3_24 wm_3_26 wp_19 wm_1_1 wm_3_27 ⟨Nat.le_of_ble_eq_true rfl, Nat.le_of_ble_eq_true rfl⟩ ⟨Nat.le_of_ble_eq_true rfl, Nat.le_of_ble_eq_true rfl⟩ cw0 rfl rfl rfl hl.1 rfl (Nat.le_of_ble_eq_true rfl) dX5_sow_136 (fun o w' H locs hp hB => ?_)
          obtain ⟨rfl, hq114, rfl⟩ := hp
          refine W.eq (g2 := F0 m 139 ls [.int x112]) rfl ?_
          rw [← hQ]
          exact vx_ret ( end_i hX hB hA3 rfl rfl (by obtain ⟨rfl, rfl, rfl, rfl, rfl⟩ := pr5 hR; exact ⟨rfl, rfl, (fun h => h), (hq114.trans rfl), rfl⟩) (Nat.le_of_ble_eq_true rfl) (Nat.le_of_ble_eq_true rfl) dX5_sow_139)
        · replace hR := ifn c108 hR
          refine lv_iconst (v := 0) hx hb dX5_sow_51 (by decide) ?_
          refine lv_istore (lv' := [(7, .int 0), (6, .int y6_41), (5, .int y5_41), (4, .ref (a (6 + 2 * x5))), (0, .ref (a 0)), (1, .int p0), (2, .int p1), (3, .int p2)]) hx hb dX5_sow_52 hl (by decide) rfl (fun ls hl => ?_)
          have lp54 : ∀ (nn54 : Nat) (y7_54 : Int32) (y5_54 : Int32) (f_54 : Nat → Nat → Int64) (H : Heap) (locs : List Loc), gap (r (2 * x5 + 1)) y7_54 < nn54 → D_X5_sow_54 r q p2 x5 (D_X5_sow_41 r q p2 x5 nn41) y6_41 nn54 y7_54 y5_54 f_54 = (o_E, o_x, o_r, o_q, o_f) → Bd κ A s (cw κ a r q f_54) H locs → ∀ ls : Array Slot, lv_has ls 8 [(7, .int y7_54), (6, .int y6_41), (5, .int y5_54), (4, .ref (a (6 + 2 * x5))), (0, .ref (a 0)), (1, .int p0), (2, .int p1), (3, .int p2)] → W p l e (Rm 7 111 2 12) s m args below meth c H locs 2 12 Q (F0 m 54 ls []) := by
            intro nn54
            induction nn54 with
            | zero => intro y7_54 y5_54 f_54 H locs hμ; exact absurd hμ (Nat.not_lt_zero _)
            | succ nn54 ih54 =>
              intro y7_54 y5_54 f_54 H locs hμ54 hR hB ls hl
              replace hR := (D_X5_sow_54_s).symm.trans hR
              refine lv_iload hx hb dX5_sow_54 (lv_at hl 0 rfl) ?_
              refine lv_aload hx hb dX5_sow_56 (lv_at hl 3 rfl) ?_
              refine gfN hX hB (cwG (i := x5) (lt15 hx5)) rfl in3 2 (by decide) wn_1_57 rfl rfl dX5_sow_58 ?_
              refine lv_icmp_ge (tgt := 112) hx hb dX5_sow_61 (by decide) (fun c126 => ?_) (fun c126 => ?_)
              · replace hR := ifp c126 hR
                refine lv_iinc (v := y6_41 + 1) (lv' := [(6, .int (y6_41 + 1)), (7, .int y7_54), (5, .int y5_54), (4, .ref (a (6 + 2 * x5))), (0, .ref (a 0)), (1, .int p0), (2, .int p1), (3, .int p2)]) hx hb dX5_sow_112 hl (k := 1) rfl rfl (by decide) rfl (fun ls hl => ?_)
                refine lv_goto (tgt := 41) hx hb dX5_sow_115 (by decide) ?_
                exact ih41 (y6_41 + 1) y5_54 f_54 _ _  (gap_step c108 hμ41) hR hB _ (lv_sub hl [0, 2, 3, 4, 5, 6, 7] rfl)
              · replace hR := ifn c126 hR
                refine lv_iload hx hb dX5_sow_64 (lv_at hl 2 rfl) ?_
                refine lv_sipush (v := 25173) hx hb dX5_sow_66 (by decide) ?_
                refine lv_imul hx hb dX5_sow_69 ?_
                refine lv_sipush (v := 13849) hx hb dX5_sow_70 (by decide) ?_
                refine lv_iadd hx hb dX5_sow_73 ?_
                refine lv_ldc (own := RX5) (v := 65536) hx hb hX.1.2.2.2.1 (hX.1.2.2.2.2 _ wm_3_60) dX5_sow_74 ?_
                refine lv_irem hx hb dX5_sow_76 (by decide) ?_
                refine lv_istore (lv' := [(5, .int (((y5_54 * 25173) + 13849) - ((y5_54 * 25173) + 13849) / 65536 * 65536)), (7, .int y7_54), (6, .int y6_41), (4, .ref (a (6 + 2 * x5))), (0, .ref (a 0)), (1, .int p0), (2, .int p1), (3, .int p2)]) hx hb dX5_sow_77 hl (by decide) rfl (fun ls hl => ?_)
                refine lv_aload hx hb dX5_sow_79 (lv_at hl 3 rfl) ?_
                refine lv_iload hx hb dX5_sow_81 (lv_at hl 2 rfl) ?_
                refine lv_iload hx hb dX5_sow_83 (lv_at hl 1 rfl) ?_
                refine lv_iload hx hb dX5_sow_85 (lv_at hl 0 rfl) ?_
                refine lv_bipush (v := 64) hx hb dX5_sow_87 (by decide) ?_
                refine lv_idiv hx hb dX5_sow_89 (by decide) ?_
                refine lv_i2l hx hb dX5_sow_90 rfl ?_
                refine lv_iconst (v := 2) hx hb dX5_sow_91 (by decide) ?_
                refine lv_iload_n hx hb dX5_sow_92 rfl (lv_at hl 7 rfl) ?_
                refine lv_imul hx hb dX5_sow_93 ?_
                refine lv_iconst (v := 1) hx hb dX5_sow_94 (by decide) ?_
                refine lv_iadd hx hb dX5_sow_95 ?_
                refine lv_i2l hx hb dX5_sow_96 rfl ?_
                obtain ⟨x127, hd128⟩ := ex1 (D_X5_remainder ((((((y5_54 * 25173) + 13849) - ((y5_54 * 25173) + 13849) / 65536 * 65536) / 64)).toInt64) ((((2 * p2) + 1)).toInt64))
                replace hR := bnd1_use hd128 hR
                refine call_S (n := 2) (As := [.long ((((((y5_54 * 25173) + 13849) - ((y5_54 * 25173) + 13849) / 65536 * 65536) / 64)).toInt64), .long ((((2 * p2) + 1)).toInt64)]) (rest := [.int y7_54, .int y6_41, .ref (a (6 + 2 * x5))]) hX hB (k_X5_remainder κ l (cw κ a r q f_54) ((((((y5_54 * 25173) + 13849) - ((y5_54 * 25173) + 13849) / 65536 * 65536) / 64)).toInt64) ((((2 * p2) + 1)).toInt64)  x127 hd128) yk_X5_remainder wm_3_61 wm_3_62 wm_1_1 wm_3_63 ⟨Nat.le_of_ble_eq_true rfl, Nat.le_of_ble_eq_true rfl⟩ ⟨Nat.le_of_ble_eq_true rfl, Nat.le_of_ble_eq_true rfl⟩ rfl hl.1 rfl (Nat.le_of_ble_eq_true rfl) dX5_sow_97 (fun o w' H locs hp hB => ?_)
                obtain ⟨rfl, hw9⟩ := hp
                rw [hw9] at hB
                refine W.eq (g2 := F0 m 100 ls [.long x127, .int y7_54, .int y6_41, .ref (a (6 + 2 * x5))]) rfl ?_
                refine lv_iload_n hx hb dX5_sow_100 rfl (lv_at hl 7 rfl) ?_
                refine lv_i2l hx hb dX5_sow_101 rfl ?_
                refine lv_lsub hx hb dX5_sow_102 ?_
                obtain ⟨f130, hd129⟩ := ex1 (D_X3_set r q f_54 x5 y6_41 y7_54 (x127 - ((p2).toInt64)))
                replace hR := bnd1_use hd129 hR
                refine call_V (n := 3) (As := [.int y6_41, .int y7_54, .long (x127 - ((p2).toInt64))]) (rest := []) hX hB (k_X3_set κ l a r q f_54 x5 y6_41 y7_54 (x127 - ((p2).toInt64)) (lt15 hx5) f130 hd129) ⟨rfl, yk_X3_set⟩ wm_3_51 wm_1_223 wm_1_224 wm_1_2 wm_1_225 ⟨Nat.le_of_ble_eq_true rfl, Nat.le_of_ble_eq_true rfl⟩ ⟨Nat.le_of_ble_eq_true rfl, Nat.le_of_ble_eq_true rfl⟩ (cwG (i := x5) (lt15 hx5)) rfl rfl rfl hl.1 rfl (Nat.le_of_ble_eq_true rfl) dX5_sow_103 (fun o w' H locs hp hB => ?_)
                obtain ⟨rfl, rfl⟩ := hp
                refine W.eq (g2 := F0 m 106 ls []) rfl ?_
                refine lv_iinc (v := y7_54 + 1) (lv' := [(7, .int (y7_54 + 1)), (5, .int (((y5_54 * 25173) + 13849) - ((y5_54 * 25173) + 13849) / 65536 * 65536)), (6, .int y6_41), (4, .ref (a (6 + 2 * x5))), (0, .ref (a 0)), (1, .int p0), (2, .int p1), (3, .int p2)]) hx hb dX5_sow_106 hl (k := 1) rfl rfl (by decide) rfl (fun ls hl => ?_)
                refine lv_goto (tgt := 54) hx hb dX5_sow_109 (by decide) ?_
                exact ih54 (y7_54 + 1) (((y5_54 * 25173) + 13849) - ((y5_54 * 25173) + 13849) / 65536 * 65536) f130 _ _  (gap_step c126 hμ54) hR hB _ (lv_sub hl [0, 2, 1, 3, 4, 5, 6, 7] rfl)
          exact lp54 _ 0 y5_41 f_41 _ _  (Nat.lt_succ_self _) hR hB _ hl
    exact lp41 _ 0 p1 f _ _  (Nat.lt_succ_self _) hR hB _ hl
  refine lv_if_lt (tgt := 31) hx hb dX5_sow_8 (by decide) (fun c131 => ?_) (fun c131 => ?_)
  · replace hR := ifp c131 hR
    refine lv_iconst (v := 0) hx hb dX5_sow_31 (by decide) ?_
    exact jn32 0 _ _ (Or.inl rfl) hR hB _ hl
  · replace hR := ifn c131 hR
    refine lv_iload_n hx hb dX5_sow_11 rfl (lv_at hl 3 rfl) ?_
    refine lv_ldc (own := RX5) (v := 65535) hx hb hX.1.2.2.2.1 (hX.1.2.2.2.2 _ wm_3_59) dX5_sow_12 ?_
    refine lv_icmp_gt (tgt := 31) hx hb dX5_sow_14 (by decide) (fun c132 => ?_) (fun c132 => ?_)
    · replace hR := ifp c132 hR
      refine lv_iconst (v := 0) hx hb dX5_sow_31 (by decide) ?_
      exact jn32 0 _ _ (Or.inl rfl) hR hB _ hl
    · replace hR := ifn c132 hR
      refine lv_iload_n hx hb dX5_sow_17 rfl (lv_at hl 4 rfl) ?_
      refine lv_if_lt (tgt := 31) hx hb dX5_sow_18 (by decide) (fun c133 => ?_) (fun c133 => ?_)
      · replace hR := ifp c133 hR
        refine lv_iconst (v := 0) hx hb dX5_sow_31 (by decide) ?_
        exact jn32 0 _ _ (Or.inl rfl) hR hB _ hl
      · replace hR := ifn c133 hR
        refine lv_iload_n hx hb dX5_sow_21 rfl (lv_at hl 4 rfl) ?_
        refine lv_bipush (v := 20) hx hb dX5_sow_22 (by decide) ?_
        refine lv_icmp_gt (tgt := 31) hx hb dX5_sow_24 (by decide) (fun c134 => ?_) (fun c134 => ?_)
        · replace hR := ifp c134 hR
          refine lv_iconst (v := 0) hx hb dX5_sow_31 (by decide) ?_
          exact jn32 0 _ _ (Or.inl rfl) hR hB _ hl
        · replace hR := ifn c134 hR
          refine lv_iconst (v := 1) hx hb dX5_sow_27 (by decide) ?_
          refine lv_goto (tgt := 32) hx hb dX5_sow_28 (by decide) ?_
          exact jn32 1 _ _ (Or.inr rfl) hR hB _ hl
noncomputable def D_X5_copy_j46 (r15 : Nat → Int32) (q17 : Nat → Int32) (f19 : Nat → Nat → Int64) (z0_46 : Int32) : String × Int32 × (Nat → Int32) × (Nat → Int32) × (Nat → Nat → Int64) := bnd3 (D_X5_tellDone r15 q17 f19 z0_46) (fun (x22 : Int32) (q23 : Nat → Int32) (f25 : Nat → Nat → Int64) => ("", x22, r15, q23, f25))
theorem D_X5_copy_j46_s {r15 : Nat → Int32} {q17 : Nat → Int32} {f19 : Nat → Nat → Int64} {z0_46 : Int32} : D_X5_copy_j46 r15 q17 f19 z0_46 = bnd3 (D_X5_tellDone r15 q17 f19 z0_46) (fun (x22 : Int32) (q23 : Nat → Int32) (f25 : Nat → Nat → Int64) => ("", x22, r15, q23, f25)) := rfl
noncomputable def D_X5_copy_j27 (r : Nat → Int32) (q : Nat → Int32) (f : Nat → Nat → Int64) (x5 : Nat) (x10 : Nat) (z0_27 : Int32) : String × Int32 × (Nat → Int32) × (Nat → Int32) × (Nat → Nat → Int64) := bnd3 (D_X3_becomeLike r q f x10 x5) (fun (r15 : Nat → Int32) (q17 : Nat → Int32) (f19 : Nat → Nat → Int64) => (if z0_27 = 0 then (D_X5_copy_j46 r15 q17 f19 0) else (D_X5_copy_j46 r15 q17 f19 1)))
theorem D_X5_copy_j27_s {r : Nat → Int32} {q : Nat → Int32} {f : Nat → Nat → Int64} {x5 : Nat} {x10 : Nat} {z0_27 : Int32} : D_X5_copy_j27 r q f x5 x10 z0_27 = bnd3 (D_X3_becomeLike r q f x10 x5) (fun (r15 : Nat → Int32) (q17 : Nat → Int32) (f19 : Nat → Nat → Int64) => (if z0_27 = 0 then (D_X5_copy_j46 r15 q17 f19 0) else (D_X5_copy_j46 r15 q17 f19 1))) := rfl
noncomputable def D_X5_copy (r : Nat → Int32) (q : Nat → Int32) (f : Nat → Nat → Int64) (p0 : Int32) (p1 : Int32) : String × Int32 × (Nat → Int32) × (Nat → Int32) × (Nat → Nat → Int64) := bnd2 (D_X5_needTable r q f p0) (fun (E2 : String) (x5 : Nat) => (if E2 = "" then bnd2 (D_X5_needTable r q f p1) (fun (E7 : String) (x10 : Nat) => (if E7 = "" then bnd1 (D_X3_isLike r q f x10 x5) (fun (x12 : Int32) => (if x12 = 0 then (D_X5_copy_j27 r q f x5 x10 1) else (D_X5_copy_j27 r q f x5 x10 0))) else (E7, 0, r, q, f))) else (E2, 0, r, q, f)))
theorem D_X5_copy_s {r : Nat → Int32} {q : Nat → Int32} {f : Nat → Nat → Int64} {p0 : Int32} {p1 : Int32} : D_X5_copy r q f p0 p1 = bnd2 (D_X5_needTable r q f p0) (fun (E2 : String) (x5 : Nat) => (if E2 = "" then bnd2 (D_X5_needTable r q f p1) (fun (E7 : String) (x10 : Nat) => (if E7 = "" then bnd1 (D_X3_isLike r q f x10 x5) (fun (x12 : Int32) => (if x12 = 0 then (D_X5_copy_j27 r q f x5 x10 1) else (D_X5_copy_j27 r q f x5 x10 0))) else (E7, 0, r, q, f))) else (E2, 0, r, q, f))) := rfl
set_option maxHeartbeats 4000000 in
set_option maxRecDepth 100000 in
theorem k_X5_copy (κ : Kt) (l : Launch) (hst : l.stackTraces = false) (a : Nat → Nat) (r q : Nat → Int32) (f : Nat → Nat → Int64) (p0 : Int32) (p1 : Int32)  (o_E : String) (o_x : Int32) (o_r : Nat → Int32) (o_q : Nat → Int32) (o_f : Nat → Nat → Int64) (hR : D_X5_copy r q f p0 p1 = (o_E, o_x, o_r, o_q, o_f)) : CX κ l yX5_copy cX5_copy 6 (some .int) 7 111 2 12 [.ref (a 0), .int p0, .int p1] (cw κ a r q f) (fun o w' => o_E = "" ∧ o = some (.int o_x) ∧ (okr r → okr o_r) ∧ o_q 4 = q 4 ∧ w' = cw κ a o_r o_q o_f) (fun E w' => o_E = E ∧ o_E ∈ (["java/lang/IndexOutOfBoundsException"] : List String) ∧ (okr r → okr o_r) ∧ o_q 4 = q 4 ∧ w' = cw κ a o_r o_q o_f) := by
  refine CX_begin (by decide) (Nat.le_of_ble_eq_true rfl) ?_
  intro p e s m args below meth c A Q hX hne hA3 hQ hB ls hl
  have hx := hX.1.1
  have hb := hX.1.2.1
  have hl : lv_has ls 6 [(0, .ref (a 0)), (1, .int p0), (2, .int p1)] := hl
  replace hR := (D_X5_copy_s).symm.trans hR
  refine lv_aload_n hx hb dX5_copy_0 rfl (lv_at hl 0 rfl) ?_
  refine lv_iload_n hx hb dX5_copy_1 rfl (lv_at hl 1 rfl) ?_
  obtain ⟨E2, x5, hd1⟩ := ex2 (D_X5_needTable r q f p0)
  replace hR := bnd2_use hd1 hR
  refine CX_after2 hX hB (run_XV (n := 1) (As := [.int p0]) (rest := []) hX hB (k_X5_needTable κ l hst a r q f p0 E2 x5 hd1) ⟨rfl, yk_X5_needTable⟩ wm_2_165 wm_2_167 wp_17 wm_1_1 wm_2_168 ⟨Nat.le_of_ble_eq_true rfl, Nat.le_of_ble_eq_true rfl⟩ ⟨Nat.le_of_ble_eq_true rfl, Nat.le_of_ble_eq_true rfl⟩ cw0 rfl rfl rfl hl.1 rfl (Nat.le_of_ble_eq_true rfl) dX5_copy_2) (fun E ce q9 w' H locs hp hB hce hcv hcl => ?_) (fun o w' H locs hp hB => ?_)
  · obtain ⟨he3, hE4, rfl⟩ := hp
    replace hR := ifn (ne_mt hE4 (by decide)) hR
    rw [← hQ]
    exact thrown_on hX hne hB hA3 hce hcv hcl (by obtain ⟨rfl, rfl, rfl, rfl, rfl⟩ := pr5 hR; exact ⟨he3, ((by decide : ∀ x ∈ (["java/lang/IndexOutOfBoundsException"] : List String), x ∈ (["java/lang/IndexOutOfBoundsException"] : List String)) _ hE4), (fun h => h), rfl, rfl⟩) (Nat.le_of_ble_eq_true rfl) (Nat.le_of_ble_eq_true rfl)
  obtain ⟨he3, hx5, rfl, rfl⟩ := hp
  replace hR := ifp he3 hR
  refine W.eq (g2 := F0 m 5 ls [.ref (a (6 + 2 * x5))]) rfl ?_
  refine lv_astore_n (lv' := [(3, .ref (a (6 + 2 * x5))), (0, .ref (a 0)), (1, .int p0), (2, .int p1)]) hx hb dX5_copy_5 rfl hl (by decide) rfl (fun ls hl => ?_)
  refine lv_aload_n hx hb dX5_copy_6 rfl (lv_at hl 1 rfl) ?_
  refine lv_iload_n hx hb dX5_copy_7 rfl (lv_at hl 3 rfl) ?_
  obtain ⟨E7, x10, hd6⟩ := ex2 (D_X5_needTable r q f p1)
  replace hR := bnd2_use hd6 hR
  refine CX_after2 hX hB (run_XV (n := 1) (As := [.int p1]) (rest := []) hX hB (k_X5_needTable κ l hst a r q f p1 E7 x10 hd6) ⟨rfl, yk_X5_needTable⟩ wm_2_165 wm_2_167 wp_17 wm_1_1 wm_2_168 ⟨Nat.le_of_ble_eq_true rfl, Nat.le_of_ble_eq_true rfl⟩ ⟨Nat.le_of_ble_eq_true rfl, Nat.le_of_ble_eq_true rfl⟩ cw0 rfl rfl rfl hl.1 rfl (Nat.le_of_ble_eq_true rfl) dX5_copy_8) (fun E ce q9 w' H locs hp hB hce hcv hcl => ?_) (fun o w' H locs hp hB => ?_)
  · obtain ⟨he8, hE9, rfl⟩ := hp
    replace hR := ifn (ne_mt hE9 (by decide)) hR
    rw [← hQ]
    exact thrown_on hX hne hB hA3 hce hcv hcl (by obtain ⟨rfl, rfl, rfl, rfl, rfl⟩ := pr5 hR; exact ⟨he8, ((by decide : ∀ x ∈ (["java/lang/IndexOutOfBoundsException"] : List String), x ∈ (["java/lang/IndexOutOfBoundsException"] : List String)) _ hE9), (fun h => h), rfl, rfl⟩) (Nat.le_of_ble_eq_true rfl) (Nat.le_of_ble_eq_true rfl)
  obtain ⟨he8, hx10, rfl, rfl⟩ := hp
  replace hR := ifp he8 hR
  refine W.eq (g2 := F0 m 11 ls [.ref (a (6 + 2 * x10))]) rfl ?_
  refine lv_astore (lv' := [(4, .ref (a (6 + 2 * x10))), (3, .ref (a (6 + 2 * x5))), (0, .ref (a 0)), (1, .int p0), (2, .int p1)]) hx hb dX5_copy_11 hl (by decide) rfl (fun ls hl => ?_)
  refine lv_aload hx hb dX5_copy_13 (lv_at hl 0 rfl) ?_
  refine lv_aload_n hx hb dX5_copy_15 rfl (lv_at hl 1 rfl) ?_
  obtain ⟨x12, hd11⟩ := ex1 (D_X3_isLike r q f x10 x5)
  replace hR := bnd1_use hd11 hR
  refine call_V (n := 1) (As := [.ref (a (6 + 2 * x5))]) (rest := []) hX hB (k_X3_isLike κ l a r q f x10 x5 (lt15 hx10) (lt15 hx5) x12 hd11) ⟨rfl, yk_X3_isLike⟩ wm_2_44 wm_2_45 wm_2_46 wm_1_2 wm_2_47 ⟨Nat.le_of_ble_eq_true rfl, Nat.le_of_ble_eq_true rfl⟩ ⟨Nat.le_of_ble_eq_true rfl, Nat.le_of_ble_eq_true rfl⟩ (cwG (i := x10) (lt15 hx10)) rfl rfl rfl hl.1 rfl (Nat.le_of_ble_eq_true rfl) dX5_copy_16 (fun o w' H locs hp hB => ?_)
  obtain ⟨rfl, bx12, rfl⟩ := hp
  refine W.eq (g2 := F0 m 19 ls [.int x12]) rfl ?_
  have jn27 : ∀ (z0_27 : Int32) (H : Heap) (locs : List Loc), (z0_27 = 0 ∨ z0_27 = 1) → D_X5_copy_j27 r q f x5 x10 z0_27 = (o_E, o_x, o_r, o_q, o_f) → Bd κ A s (cw κ a r q f) H locs → ∀ ls : Array Slot, lv_has ls 6 [(4, .ref (a (6 + 2 * x10))), (3, .ref (a (6 + 2 * x5))), (0, .ref (a 0)), (1, .int p0), (2, .int p1)] → W p l e (Rm 7 111 2 12) s m args below meth c H locs 2 12 Q (F0 m 27 ls [.int z0_27]) := by
    intro z0_27 H locs hz0_27 hR hB ls hl
    replace hR := (D_X5_copy_j27_s).symm.trans hR
    refine lv_istore (lv' := [(5, .int z0_27), (4, .ref (a (6 + 2 * x10))), (3, .ref (a (6 + 2 * x5))), (0, .ref (a 0)), (1, .int p0), (2, .int p1)]) hx hb dX5_copy_27 hl (by decide) rfl (fun ls hl => ?_)
    refine lv_aload hx hb dX5_copy_29 (lv_at hl 1 rfl) ?_
    refine lv_aload_n hx hb dX5_copy_31 rfl (lv_at hl 2 rfl) ?_
    obtain ⟨r15, q17, f19, hd14⟩ := ex3 (D_X3_becomeLike r q f x10 x5)
    replace hR := bnd3_use hd14 hR
    refine call_V (n := 1) (As := [.ref (a (6 + 2 * x5))]) (rest := []) hX hB (k_X3_becomeLike κ l a r q f x10 x5 (lt15 hx10) (lt15 hx5) r15 q17 f19 hd14) ⟨rfl, yk_X3_becomeLike⟩ wm_3_74 wm_1_205 wm_1_206 wm_1_2 wm_1_207 ⟨Nat.le_of_ble_eq_true rfl, Nat.le_of_ble_eq_true rfl⟩ ⟨Nat.le_of_ble_eq_true rfl, Nat.le_of_ble_eq_true rfl⟩ (cwG (i := x10) (lt15 hx10)) rfl rfl rfl hl.1 rfl (Nat.le_of_ble_eq_true rfl) dX5_copy_32 (fun o w' H locs hp hB => ?_)
    obtain ⟨rfl, ho16, hq18, rfl⟩ := hp
    refine W.eq (g2 := F0 m 35 ls []) rfl ?_
    refine lv_aload_n hx hb dX5_copy_35 rfl (lv_at hl 3 rfl) ?_
    refine lv_iload hx hb dX5_copy_36 (lv_at hl 0 rfl) ?_
    have jn46 : ∀ (z0_46 : Int32) (H : Heap) (locs : List Loc), (z0_46 = 0 ∨ z0_46 = 1) → D_X5_copy_j46 r15 q17 f19 z0_46 = (o_E, o_x, o_r, o_q, o_f) → Bd κ A s (cw κ a r15 q17 f19) H locs → ∀ ls : Array Slot, lv_has ls 6 [(5, .int z0_27), (4, .ref (a (6 + 2 * x10))), (3, .ref (a (6 + 2 * x5))), (0, .ref (a 0)), (1, .int p0), (2, .int p1)] → W p l e (Rm 7 111 2 12) s m args below meth c H locs 2 12 Q (F0 m 46 ls [.int z0_46, .ref (a 0)]) := by
      intro z0_46 H locs hz0_46 hR hB ls hl
      replace hR := (D_X5_copy_j46_s).symm.trans hR
      obtain ⟨x22, q23, f25, hd21⟩ := ex3 (D_X5_tellDone r15 q17 f19 z0_46)
      replace hR := bnd3_use hd21 hR
      refine call_V (n := 1) (As := [.int z0_46]) (rest := []) hX hB (k_X5_tellDone κ l a r15 q17 f19 z0_46 x22 q23 f25 hd21) ⟨rfl, yk_X5_tellDone⟩ wm_3_24 wm_3_26 wp_19 wm_1_1 wm_3_27 ⟨Nat.le_of_ble_eq_true rfl, Nat.le_of_ble_eq_true rfl⟩ ⟨Nat.le_of_ble_eq_true rfl, Nat.le_of_ble_eq_true rfl⟩ cw0 rfl rfl rfl hl.1 rfl (Nat.le_of_ble_eq_true rfl) dX5_copy_46 (fun o w' H locs hp hB => ?_)
      obtain ⟨rfl, hq24, rfl⟩ := hp
      refine W.eq (g2 := F0 m 49 ls [.int x22]) rfl ?_
      rw [← hQ]
      exact vx_ret ( end_i hX hB hA3 rfl rfl (by obtain ⟨rfl, rfl, rfl, rfl, rfl⟩ := pr5 hR; exact ⟨rfl, rfl, (fun h => ho16 ((fun h => h) h)), (hq24.trans (hq18.trans rfl)), rfl⟩) (Nat.le_of_ble_eq_true rfl) (Nat.le_of_ble_eq_true rfl) dX5_copy_49)
    refine lv_if_eq (tgt := 45) hx hb dX5_copy_38 (by decide) (fun c26 => ?_) (fun c26 => ?_)
    · replace hR := ifp c26 hR
      refine lv_iconst (v := 0) hx hb dX5_copy_45 (by decide) ?_
      exact jn46 0 _ _ (Or.inl rfl) hR hB _ hl
    · replace hR := ifn c26 hR
      refine lv_iconst (v := 1) hx hb dX5_copy_41 (by decide) ?_
      refine lv_goto (tgt := 46) hx hb dX5_copy_42 (by decide) ?_
      exact jn46 1 _ _ (Or.inr rfl) hR hB _ hl
  refine lv_if_ne (tgt := 26) hx hb dX5_copy_19 (by decide) (fun c27 => ?_) (fun c27 => ?_)
  · replace hR := ifn c27 hR
    refine lv_iconst (v := 0) hx hb dX5_copy_26 (by decide) ?_
    exact jn27 0 _ _ (Or.inl rfl) hR hB _ hl
  · replace hR := ifp c27 hR
    refine lv_iconst (v := 1) hx hb dX5_copy_22 (by decide) ?_
    refine lv_goto (tgt := 27) hx hb dX5_copy_23 (by decide) ?_
    exact jn27 1 _ _ (Or.inr rfl) hR hB _ hl
noncomputable def D_X5_swap_j63 (r27 : Nat → Int32) (q29 : Nat → Int32) (f31 : Nat → Nat → Int64) (z0_63 : Int32) : String × Int32 × (Nat → Int32) × (Nat → Int32) × (Nat → Nat → Int64) := bnd3 (D_X5_tellDone r27 q29 f31 z0_63) (fun (x34 : Int32) (q35 : Nat → Int32) (f37 : Nat → Nat → Int64) => ("", x34, r27, q35, f37))
theorem D_X5_swap_j63_s {r27 : Nat → Int32} {q29 : Nat → Int32} {f31 : Nat → Nat → Int64} {z0_63 : Int32} : D_X5_swap_j63 r27 q29 f31 z0_63 = bnd3 (D_X5_tellDone r27 q29 f31 z0_63) (fun (x34 : Int32) (q35 : Nat → Int32) (f37 : Nat → Nat → Int64) => ("", x34, r27, q35, f37)) := rfl
noncomputable def D_X5_swap_j27 (r : Nat → Int32) (q : Nat → Int32) (f : Nat → Nat → Int64) (x5 : Nat) (x10 : Nat) (z0_27 : Int32) : String × Int32 × (Nat → Int32) × (Nat → Int32) × (Nat → Nat → Int64) := bnd3 (D_X3_becomeLike r q f 4 x5) (fun (r15 : Nat → Int32) (q17 : Nat → Int32) (f19 : Nat → Nat → Int64) => bnd3 (D_X3_becomeLike r15 q17 f19 x5 x10) (fun (r21 : Nat → Int32) (q23 : Nat → Int32) (f25 : Nat → Nat → Int64) => bnd3 (D_X3_becomeLike r21 q23 f25 x10 4) (fun (r27 : Nat → Int32) (q29 : Nat → Int32) (f31 : Nat → Nat → Int64) => (if z0_27 = 0 then (D_X5_swap_j63 r27 q29 f31 0) else (D_X5_swap_j63 r27 q29 f31 1)))))
theorem D_X5_swap_j27_s {r : Nat → Int32} {q : Nat → Int32} {f : Nat → Nat → Int64} {x5 : Nat} {x10 : Nat} {z0_27 : Int32} : D_X5_swap_j27 r q f x5 x10 z0_27 = bnd3 (D_X3_becomeLike r q f 4 x5) (fun (r15 : Nat → Int32) (q17 : Nat → Int32) (f19 : Nat → Nat → Int64) => bnd3 (D_X3_becomeLike r15 q17 f19 x5 x10) (fun (r21 : Nat → Int32) (q23 : Nat → Int32) (f25 : Nat → Nat → Int64) => bnd3 (D_X3_becomeLike r21 q23 f25 x10 4) (fun (r27 : Nat → Int32) (q29 : Nat → Int32) (f31 : Nat → Nat → Int64) => (if z0_27 = 0 then (D_X5_swap_j63 r27 q29 f31 0) else (D_X5_swap_j63 r27 q29 f31 1))))) := rfl
noncomputable def D_X5_swap (r : Nat → Int32) (q : Nat → Int32) (f : Nat → Nat → Int64) (p0 : Int32) (p1 : Int32) : String × Int32 × (Nat → Int32) × (Nat → Int32) × (Nat → Nat → Int64) := bnd2 (D_X5_needTable r q f p0) (fun (E2 : String) (x5 : Nat) => (if E2 = "" then bnd2 (D_X5_needTable r q f p1) (fun (E7 : String) (x10 : Nat) => (if E7 = "" then bnd1 (D_X3_isLike r q f x5 x10) (fun (x12 : Int32) => (if x12 = 0 then (D_X5_swap_j27 r q f x5 x10 1) else (D_X5_swap_j27 r q f x5 x10 0))) else (E7, 0, r, q, f))) else (E2, 0, r, q, f)))
theorem D_X5_swap_s {r : Nat → Int32} {q : Nat → Int32} {f : Nat → Nat → Int64} {p0 : Int32} {p1 : Int32} : D_X5_swap r q f p0 p1 = bnd2 (D_X5_needTable r q f p0) (fun (E2 : String) (x5 : Nat) => (if E2 = "" then bnd2 (D_X5_needTable r q f p1) (fun (E7 : String) (x10 : Nat) => (if E7 = "" then bnd1 (D_X3_isLike r q f x5 x10) (fun (x12 : Int32) => (if x12 = 0 then (D_X5_swap_j27 r q f x5 x10 1) else (D_X5_swap_j27 r q f x5 x10 0))) else (E7, 0, r, q, f))) else (E2, 0, r, q, f))) := rfl
set_option maxHeartbeats 4000000 in
set_option maxRecDepth 100000 in
theorem k_X5_swap (κ : Kt) (l : Launch) (hst : l.stackTraces = false) (a : Nat → Nat) (r q : Nat → Int32) (f : Nat → Nat → Int64) (p0 : Int32) (p1 : Int32)  (o_E : String) (o_x : Int32) (o_r : Nat → Int32) (o_q : Nat → Int32) (o_f : Nat → Nat → Int64) (hR : D_X5_swap r q f p0 p1 = (o_E, o_x, o_r, o_q, o_f)) : CX κ l yX5_swap cX5_swap 6 (some .int) 7 111 2 12 [.ref (a 0), .int p0, .int p1] (cw κ a r q f) (fun o w' => o_E = "" ∧ o = some (.int o_x) ∧ (okr r → okr o_r) ∧ o_q 4 = q 4 ∧ w' = cw κ a o_r o_q o_f) (fun E w' => o_E = E ∧ o_E ∈ (["java/lang/IndexOutOfBoundsException"] : List String) ∧ (okr r → okr o_r) ∧ o_q 4 = q 4 ∧ w' = cw κ a o_r o_q o_f) := by
  refine CX_begin (by decide) (Nat.le_of_ble_eq_true rfl) ?_
  intro p e s m args below meth c A Q hX hne hA3 hQ hB ls hl
  have hx := hX.1.1
  have hb := hX.1.2.1
  have hl : lv_has ls 6 [(0, .ref (a 0)), (1, .int p0), (2, .int p1)] := hl
  replace hR := (D_X5_swap_s).symm.trans hR
  refine lv_aload_n hx hb dX5_swap_0 rfl (lv_at hl 0 rfl) ?_
  refine lv_iload_n hx hb dX5_swap_1 rfl (lv_at hl 1 rfl) ?_
  obtain ⟨E2, x5, hd1⟩ := ex2 (D_X5_needTable r q f p0)
  replace hR := bnd2_use hd1 hR
  refine CX_after2 hX hB (run_XV (n := 1) (As := [.int p0]) (rest := []) hX hB (k_X5_needTable κ l hst a r q f p0 E2 x5 hd1) ⟨rfl, yk_X5_needTable⟩ wm_2_165 wm_2_167 wp_17 wm_1_1 wm_2_168 ⟨Nat.le_of_ble_eq_true rfl, Nat.le_of_ble_eq_true rfl⟩ ⟨Nat.le_of_ble_eq_true rfl, Nat.le_of_ble_eq_true rfl⟩ cw0 rfl rfl rfl hl.1 rfl (Nat.le_of_ble_eq_true rfl) dX5_swap_2) (fun E ce q9 w' H locs hp hB hce hcv hcl => ?_) (fun o w' H locs hp hB => ?_)
  · obtain ⟨he3, hE4, rfl⟩ := hp
    replace hR := ifn (ne_mt hE4 (by decide)) hR
    rw [← hQ]
    exact thrown_on hX hne hB hA3 hce hcv hcl (by obtain ⟨rfl, rfl, rfl, rfl, rfl⟩ := pr5 hR; exact ⟨he3, ((by decide : ∀ x ∈ (["java/lang/IndexOutOfBoundsException"] : List String), x ∈ (["java/lang/IndexOutOfBoundsException"] : List String)) _ hE4), (fun h => h), rfl, rfl⟩) (Nat.le_of_ble_eq_true rfl) (Nat.le_of_ble_eq_true rfl)
  obtain ⟨he3, hx5, rfl, rfl⟩ := hp
  replace hR := ifp he3 hR
  refine W.eq (g2 := F0 m 5 ls [.ref (a (6 + 2 * x5))]) rfl ?_
  refine lv_astore_n (lv' := [(3, .ref (a (6 + 2 * x5))), (0, .ref (a 0)), (1, .int p0), (2, .int p1)]) hx hb dX5_swap_5 rfl hl (by decide) rfl (fun ls hl => ?_)
  refine lv_aload_n hx hb dX5_swap_6 rfl (lv_at hl 1 rfl) ?_
  refine lv_iload_n hx hb dX5_swap_7 rfl (lv_at hl 3 rfl) ?_
  obtain ⟨E7, x10, hd6⟩ := ex2 (D_X5_needTable r q f p1)
  replace hR := bnd2_use hd6 hR
  refine CX_after2 hX hB (run_XV (n := 1) (As := [.int p1]) (rest := []) hX hB (k_X5_needTable κ l hst a r q f p1 E7 x10 hd6) ⟨rfl, yk_X5_needTable⟩ wm_2_165 wm_2_167 wp_17 wm_1_1 wm_2_168 ⟨Nat.le_of_ble_eq_true rfl, Nat.le_of_ble_eq_true rfl⟩ ⟨Nat.le_of_ble_eq_true rfl, Nat.le_of_ble_eq_true rfl⟩ cw0 rfl rfl rfl hl.1 rfl (Nat.le_of_ble_eq_true rfl) dX5_swap_8) (fun E ce q9 w' H locs hp hB hce hcv hcl => ?_) (fun o w' H locs hp hB => ?_)
  · obtain ⟨he8, hE9, rfl⟩ := hp
    replace hR := ifn (ne_mt hE9 (by decide)) hR
    rw [← hQ]
    exact thrown_on hX hne hB hA3 hce hcv hcl (by obtain ⟨rfl, rfl, rfl, rfl, rfl⟩ := pr5 hR; exact ⟨he8, ((by decide : ∀ x ∈ (["java/lang/IndexOutOfBoundsException"] : List String), x ∈ (["java/lang/IndexOutOfBoundsException"] : List String)) _ hE9), (fun h => h), rfl, rfl⟩) (Nat.le_of_ble_eq_true rfl) (Nat.le_of_ble_eq_true rfl)
  obtain ⟨he8, hx10, rfl, rfl⟩ := hp
  replace hR := ifp he8 hR
  refine W.eq (g2 := F0 m 11 ls [.ref (a (6 + 2 * x10))]) rfl ?_
  refine lv_astore (lv' := [(4, .ref (a (6 + 2 * x10))), (3, .ref (a (6 + 2 * x5))), (0, .ref (a 0)), (1, .int p0), (2, .int p1)]) hx hb dX5_swap_11 hl (by decide) rfl (fun ls hl => ?_)
  refine lv_aload_n hx hb dX5_swap_13 rfl (lv_at hl 1 rfl) ?_
  refine lv_aload hx hb dX5_swap_14 (lv_at hl 0 rfl) ?_
  obtain ⟨x12, hd11⟩ := ex1 (D_X3_isLike r q f x5 x10)
  replace hR := bnd1_use hd11 hR
  refine call_V (n := 1) (As := [.ref (a (6 + 2 * x10))]) (rest := []) hX hB (k_X3_isLike κ l a r q f x5 x10 (lt15 hx5) (lt15 hx10) x12 hd11) ⟨rfl, yk_X3_isLike⟩ wm_2_44 wm_2_45 wm_2_46 wm_1_2 wm_2_47 ⟨Nat.le_of_ble_eq_true rfl, Nat.le_of_ble_eq_true rfl⟩ ⟨Nat.le_of_ble_eq_true rfl, Nat.le_of_ble_eq_true rfl⟩ (cwG (i := x5) (lt15 hx5)) rfl rfl rfl hl.1 rfl (Nat.le_of_ble_eq_true rfl) dX5_swap_16 (fun o w' H locs hp hB => ?_)
  obtain ⟨rfl, bx12, rfl⟩ := hp
  refine W.eq (g2 := F0 m 19 ls [.int x12]) rfl ?_
  have jn27 : ∀ (z0_27 : Int32) (H : Heap) (locs : List Loc), (z0_27 = 0 ∨ z0_27 = 1) → D_X5_swap_j27 r q f x5 x10 z0_27 = (o_E, o_x, o_r, o_q, o_f) → Bd κ A s (cw κ a r q f) H locs → ∀ ls : Array Slot, lv_has ls 6 [(4, .ref (a (6 + 2 * x10))), (3, .ref (a (6 + 2 * x5))), (0, .ref (a 0)), (1, .int p0), (2, .int p1)] → W p l e (Rm 7 111 2 12) s m args below meth c H locs 2 12 Q (F0 m 27 ls [.int z0_27]) := by
    intro z0_27 H locs hz0_27 hR hB ls hl
    replace hR := (D_X5_swap_j27_s).symm.trans hR
    refine lv_istore (lv' := [(5, .int z0_27), (4, .ref (a (6 + 2 * x10))), (3, .ref (a (6 + 2 * x5))), (0, .ref (a 0)), (1, .int p0), (2, .int p1)]) hx hb dX5_swap_27 hl (by decide) rfl (fun ls hl => ?_)
    refine lv_aload_n hx hb dX5_swap_29 rfl (lv_at hl 3 rfl) ?_
    refine gf hX hB cw0 rfl in5 1 (by decide) wm_1_138 rfl rfl dX5_swap_30 ?_
    refine lv_aload_n hx hb dX5_swap_33 rfl (lv_at hl 2 rfl) ?_
    obtain ⟨r15, q17, f19, hd14⟩ := ex3 (D_X3_becomeLike r q f 4 x5)
    replace hR := bnd3_use hd14 hR
    refine call_V (n := 1) (As := [.ref (a (6 + 2 * x5))]) (rest := []) hX hB (k_X3_becomeLike κ l a r q f 4 x5 (by decide) (lt15 hx5) r15 q17 f19 hd14) ⟨rfl, yk_X3_becomeLike⟩ wm_3_74 wm_1_205 wm_1_206 wm_1_2 wm_1_207 ⟨Nat.le_of_ble_eq_true rfl, Nat.le_of_ble_eq_true rfl⟩ ⟨Nat.le_of_ble_eq_true rfl, Nat.le_of_ble_eq_true rfl⟩ (cwG (i := 4) (by decide)) rfl rfl rfl hl.1 rfl (Nat.le_of_ble_eq_true rfl) dX5_swap_34 (fun o w' H locs hp hB => ?_)
    obtain ⟨rfl, ho16, hq18, rfl⟩ := hp
    refine W.eq (g2 := F0 m 37 ls []) rfl ?_
    refine lv_aload_n hx hb dX5_swap_37 rfl (lv_at hl 2 rfl) ?_
    refine lv_aload hx hb dX5_swap_38 (lv_at hl 1 rfl) ?_
    obtain ⟨r21, q23, f25, hd20⟩ := ex3 (D_X3_becomeLike r15 q17 f19 x5 x10)
    replace hR := bnd3_use hd20 hR
    refine call_V (n := 1) (As := [.ref (a (6 + 2 * x10))]) (rest := []) hX hB (k_X3_becomeLike κ l a r15 q17 f19 x5 x10 (lt15 hx5) (lt15 hx10) r21 q23 f25 hd20) ⟨rfl, yk_X3_becomeLike⟩ wm_3_74 wm_1_205 wm_1_206 wm_1_2 wm_1_207 ⟨Nat.le_of_ble_eq_true rfl, Nat.le_of_ble_eq_true rfl⟩ ⟨Nat.le_of_ble_eq_true rfl, Nat.le_of_ble_eq_true rfl⟩ (cwG (i := x5) (lt15 hx5)) rfl rfl rfl hl.1 rfl (Nat.le_of_ble_eq_true rfl) dX5_swap_40 (fun o w' H locs hp hB => ?_)
    obtain ⟨rfl, ho22, hq24, rfl⟩ := hp
    refine W.eq (g2 := F0 m 43 ls []) rfl ?_
    refine lv_aload hx hb dX5_swap_43 (lv_at hl 1 rfl) ?_
    refine lv_aload_n hx hb dX5_swap_45 rfl (lv_at hl 3 rfl) ?_
    refine gf hX hB cw0 rfl in5 1 (by decide) wm_1_138 rfl rfl dX5_swap_46 ?_
    obtain ⟨r27, q29, f31, hd26⟩ := ex3 (D_X3_becomeLike r21 q23 f25 x10 4)
    replace hR := bnd3_use hd26 hR
    refine call_V (n := 1) (As := [.ref (a 14)]) (rest := []) hX hB (k_X3_becomeLike κ l a r21 q23 f25 x10 4 (lt15 hx10) (by decide) r27 q29 f31 hd26) ⟨rfl, yk_X3_becomeLike⟩ wm_3_74 wm_1_205 wm_1_206 wm_1_2 wm_1_207 ⟨Nat.le_of_ble_eq_true rfl, Nat.le_of_ble_eq_true rfl⟩ ⟨Nat.le_of_ble_eq_true rfl, Nat.le_of_ble_eq_true rfl⟩ (cwG (i := x10) (lt15 hx10)) rfl rfl rfl hl.1 rfl (Nat.le_of_ble_eq_true rfl) dX5_swap_49 (fun o w' H locs hp hB => ?_)
    obtain ⟨rfl, ho28, hq30, rfl⟩ := hp
    refine W.eq (g2 := F0 m 52 ls []) rfl ?_
    refine lv_aload_n hx hb dX5_swap_52 rfl (lv_at hl 3 rfl) ?_
    refine lv_iload hx hb dX5_swap_53 (lv_at hl 0 rfl) ?_
    have jn63 : ∀ (z0_63 : Int32) (H : Heap) (locs : List Loc), (z0_63 = 0 ∨ z0_63 = 1) → D_X5_swap_j63 r27 q29 f31 z0_63 = (o_E, o_x, o_r, o_q, o_f) → Bd κ A s (cw κ a r27 q29 f31) H locs → ∀ ls : Array Slot, lv_has ls 6 [(5, .int z0_27), (4, .ref (a (6 + 2 * x10))), (3, .ref (a (6 + 2 * x5))), (0, .ref (a 0)), (1, .int p0), (2, .int p1)] → W p l e (Rm 7 111 2 12) s m args below meth c H locs 2 12 Q (F0 m 63 ls [.int z0_63, .ref (a 0)]) := by
      intro z0_63 H locs hz0_63 hR hB ls hl
      replace hR := (D_X5_swap_j63_s).symm.trans hR
      obtain ⟨x34, q35, f37, hd33⟩ := ex3 (D_X5_tellDone r27 q29 f31 z0_63)
      replace hR := bnd3_use hd33 hR
      refine call_V (n := 1) (As := [.int z0_63]) (rest := []) hX hB (k_X5_tellDone κ l a r27 q29 f31 z0_63 x34 q35 f37 hd33) ⟨rfl, yk_X5_tellDone⟩ wm_3_24 wm_3_26 wp_19 wm_1_1 wm_3_27 ⟨Nat.le_of_ble_eq_true rfl, Nat.le_of_ble_eq_true rfl⟩ ⟨Nat.le_of_ble_eq_true rfl, Nat.le_of_ble_eq_true rfl⟩ cw0 rfl rfl rfl hl.1 rfl (Nat.le_of_ble_eq_true rfl) dX5_swap_63 (fun o w' H locs hp hB => ?_)
      obtain ⟨rfl, hq36, rfl⟩ := hp
      refine W.eq (g2 := F0 m 66 ls [.int x34]) rfl ?_
      rw [← hQ]
      exact vx_ret ( end_i hX hB hA3 rfl rfl (by obtain ⟨rfl, rfl, rfl, rfl, rfl⟩ := pr5 hR; exact ⟨rfl, rfl, (fun h => ho28 ((fun h => ho22 ((fun h => ho16 ((fun h => h) h)) h)) h)), (hq36.trans (hq30.trans (hq24.trans (hq18.trans rfl)))), rfl⟩) (Nat.le_of_ble_eq_true rfl) (Nat.le_of_ble_eq_true rfl) dX5_swap_66)
    refine lv_if_eq (tgt := 62) hx hb dX5_swap_55 (by decide) (fun c38 => ?_) (fun c38 => ?_)
    · replace hR := ifp c38 hR
      refine lv_iconst (v := 0) hx hb dX5_swap_62 (by decide) ?_
      exact jn63 0 _ _ (Or.inl rfl) hR hB _ hl
    · replace hR := ifn c38 hR
      refine lv_iconst (v := 1) hx hb dX5_swap_58 (by decide) ?_
      refine lv_goto (tgt := 63) hx hb dX5_swap_59 (by decide) ?_
      exact jn63 1 _ _ (Or.inr rfl) hR hB _ hl
  refine lv_if_ne (tgt := 26) hx hb dX5_swap_19 (by decide) (fun c39 => ?_) (fun c39 => ?_)
  · replace hR := ifn c39 hR
    refine lv_iconst (v := 0) hx hb dX5_swap_26 (by decide) ?_
    exact jn27 0 _ _ (Or.inl rfl) hR hB _ hl
  · replace hR := ifp c39 hR
    refine lv_iconst (v := 1) hx hb dX5_swap_22 (by decide) ?_
    refine lv_goto (tgt := 27) hx hb dX5_swap_23 (by decide) ?_
    exact jn27 1 _ _ (Or.inr rfl) hR hB _ hl
noncomputable def D_X5_flip_34 (x5 : Nat) (r7 : Nat → Int32) (q9 : Nat → Int32) (lb23 : Int32 → (Nat → Nat → Int64) → String × Int32 × (Nat → Int32) × (Nat → Int32) × (Nat → Nat → Int64)) (y3_23 : Int32) (nn : Nat) : Int32 → (Nat → Nat → Int64) → String × Int32 × (Nat → Int32) × (Nat → Int32) × (Nat → Nat → Int64) := @Nat.rec (fun _ => Int32 → (Nat → Nat → Int64) → String × Int32 × (Nat → Int32) × (Nat → Int32) × (Nat → Nat → Int64)) (fun _ _ => default) (fun _ lb34 (y4_34 : Int32) (f_34 : Nat → Nat → Int64) => (if (r7 (2 * x5 + 1)) ≤ y4_34 then (lb23 (y3_23 + 1) f_34) else bnd1 (D_X3_get r7 q9 f_34 x5 y3_23 y4_34) (fun (x138 : Int64) => bnd1 (D_X3_set r7 q9 f_34 4 y4_34 y3_23 x138) (fun (f140 : Nat → Nat → Int64) => (lb34 (y4_34 + 1) f140))))) nn
theorem D_X5_flip_34_s {x5 : Nat} {r7 : Nat → Int32} {q9 : Nat → Int32} {lb23 : Int32 → (Nat → Nat → Int64) → String × Int32 × (Nat → Int32) × (Nat → Int32) × (Nat → Nat → Int64)} {y3_23 : Int32} {nn : Nat} {y4_34 : Int32} {f_34 : Nat → Nat → Int64} : D_X5_flip_34 x5 r7 q9 lb23 y3_23 (nn + 1) y4_34 f_34 = (if (r7 (2 * x5 + 1)) ≤ y4_34 then (lb23 (y3_23 + 1) f_34) else bnd1 (D_X3_get r7 q9 f_34 x5 y3_23 y4_34) (fun (x138 : Int64) => bnd1 (D_X3_set r7 q9 f_34 4 y4_34 y3_23 x138) (fun (f140 : Nat → Nat → Int64) => ((D_X5_flip_34 x5 r7 q9 lb23 y3_23 nn) (y4_34 + 1) f140)))) := rfl
noncomputable def D_X5_flip_23 (x5 : Nat) (r7 : Nat → Int32) (q9 : Nat → Int32) (nn : Nat) : Int32 → (Nat → Nat → Int64) → String × Int32 × (Nat → Int32) × (Nat → Int32) × (Nat → Nat → Int64) := @Nat.rec (fun _ => Int32 → (Nat → Nat → Int64) → String × Int32 × (Nat → Int32) × (Nat → Int32) × (Nat → Nat → Int64)) (fun _ _ => default) (fun _ lb23 (y3_23 : Int32) (f_23 : Nat → Nat → Int64) => (if (r7 (2 * x5)) ≤ y3_23 then bnd3 (D_X3_becomeLike r7 q9 f_23 x5 4) (fun (r116 : Nat → Int32) (q118 : Nat → Int32) (f120 : Nat → Nat → Int64) => bnd3 (D_X5_tellDone r116 q118 f120 (r116 (2 * x5))) (fun (x122 : Int32) (q123 : Nat → Int32) (f125 : Nat → Nat → Int64) => ("", x122, r116, q123, f125))) else (D_X5_flip_34 x5 r7 q9 lb23 y3_23 (gap (r7 (2 * x5 + 1)) 0 + 1) 0 f_23))) nn
theorem D_X5_flip_23_s {x5 : Nat} {r7 : Nat → Int32} {q9 : Nat → Int32} {nn : Nat} {y3_23 : Int32} {f_23 : Nat → Nat → Int64} : D_X5_flip_23 x5 r7 q9 (nn + 1) y3_23 f_23 = (if (r7 (2 * x5)) ≤ y3_23 then bnd3 (D_X3_becomeLike r7 q9 f_23 x5 4) (fun (r116 : Nat → Int32) (q118 : Nat → Int32) (f120 : Nat → Nat → Int64) => bnd3 (D_X5_tellDone r116 q118 f120 (r116 (2 * x5))) (fun (x122 : Int32) (q123 : Nat → Int32) (f125 : Nat → Nat → Int64) => ("", x122, r116, q123, f125))) else (D_X5_flip_34 x5 r7 q9 (D_X5_flip_23 x5 r7 q9 nn) y3_23 (gap (r7 (2 * x5 + 1)) 0 + 1) 0 f_23)) := rfl
noncomputable def D_X5_flip (r : Nat → Int32) (q : Nat → Int32) (f : Nat → Nat → Int64) (p0 : Int32) : String × Int32 × (Nat → Int32) × (Nat → Int32) × (Nat → Nat → Int64) := bnd2 (D_X5_needTable r q f p0) (fun (E2 : String) (x5 : Nat) => (if E2 = "" then bnd3 (D_X3_reshape r q f 4 (r (2 * x5 + 1)) (r (2 * x5))) (fun (r7 : Nat → Int32) (q9 : Nat → Int32) (f11 : Nat → Nat → Int64) => (D_X5_flip_23 x5 r7 q9 (gap (r7 (2 * x5)) 0 + 1) 0 f11)) else (E2, 0, r, q, f)))
theorem D_X5_flip_s {r : Nat → Int32} {q : Nat → Int32} {f : Nat → Nat → Int64} {p0 : Int32} : D_X5_flip r q f p0 = bnd2 (D_X5_needTable r q f p0) (fun (E2 : String) (x5 : Nat) => (if E2 = "" then bnd3 (D_X3_reshape r q f 4 (r (2 * x5 + 1)) (r (2 * x5))) (fun (r7 : Nat → Int32) (q9 : Nat → Int32) (f11 : Nat → Nat → Int64) => (D_X5_flip_23 x5 r7 q9 (gap (r7 (2 * x5)) 0 + 1) 0 f11)) else (E2, 0, r, q, f))) := rfl
set_option maxHeartbeats 4000000 in
set_option maxRecDepth 100000 in
theorem k_X5_flip (κ : Kt) (l : Launch) (hst : l.stackTraces = false) (a : Nat → Nat) (r q : Nat → Int32) (f : Nat → Nat → Int64) (p0 : Int32)  (o_E : String) (o_x : Int32) (o_r : Nat → Int32) (o_q : Nat → Int32) (o_f : Nat → Nat → Int64) (hR : D_X5_flip r q f p0 = (o_E, o_x, o_r, o_q, o_f)) : CX κ l yX5_flip cX5_flip 5 (some .int) 7 111 1 6 [.ref (a 0), .int p0] (cw κ a r q f) (fun o w' => o_E = "" ∧ o = some (.int o_x) ∧ (okr r → okr o_r) ∧ o_q 4 = q 4 ∧ w' = cw κ a o_r o_q o_f) (fun E w' => o_E = E ∧ o_E ∈ (["java/lang/IndexOutOfBoundsException"] : List String) ∧ (okr r → okr o_r) ∧ o_q 4 = q 4 ∧ w' = cw κ a o_r o_q o_f) := by
  refine CX_begin (by decide) (Nat.le_of_ble_eq_true rfl) ?_
  intro p e s m args below meth c A Q hX hne hA3 hQ hB ls hl
  have hx := hX.1.1
  have hb := hX.1.2.1
  have hl : lv_has ls 5 [(0, .ref (a 0)), (1, .int p0)] := hl
  replace hR := (D_X5_flip_s).symm.trans hR
  refine lv_aload_n hx hb dX5_flip_0 rfl (lv_at hl 0 rfl) ?_
  refine lv_iload_n hx hb dX5_flip_1 rfl (lv_at hl 1 rfl) ?_
  obtain ⟨E2, x5, hd1⟩ := ex2 (D_X5_needTable r q f p0)
  replace hR := bnd2_use hd1 hR
  refine CX_after2 hX hB (run_XV (n := 1) (As := [.int p0]) (rest := []) hX hB (k_X5_needTable κ l hst a r q f p0 E2 x5 hd1) ⟨rfl, yk_X5_needTable⟩ wm_2_165 wm_2_167 wp_17 wm_1_1 wm_2_168 ⟨Nat.le_of_ble_eq_true rfl, Nat.le_of_ble_eq_true rfl⟩ ⟨Nat.le_of_ble_eq_true rfl, Nat.le_of_ble_eq_true rfl⟩ cw0 rfl rfl rfl hl.1 rfl (Nat.le_of_ble_eq_true rfl) dX5_flip_2) (fun E ce q9 w' H locs hp hB hce hcv hcl => ?_) (fun o w' H locs hp hB => ?_)
  · obtain ⟨he3, hE4, rfl⟩ := hp
    replace hR := ifn (ne_mt hE4 (by decide)) hR
    rw [← hQ]
    exact thrown_on hX hne hB hA3 hce hcv hcl (by obtain ⟨rfl, rfl, rfl, rfl, rfl⟩ := pr5 hR; exact ⟨he3, ((by decide : ∀ x ∈ (["java/lang/IndexOutOfBoundsException"] : List String), x ∈ (["java/lang/IndexOutOfBoundsException"] : List String)) _ hE4), (fun h => h), rfl, rfl⟩) (Nat.le_of_ble_eq_true rfl) (Nat.le_of_ble_eq_true rfl)
  obtain ⟨he3, hx5, rfl, rfl⟩ := hp
  replace hR := ifp he3 hR
  refine W.eq (g2 := F0 m 5 ls [.ref (a (6 + 2 * x5))]) rfl ?_
  refine lv_astore_n (lv' := [(2, .ref (a (6 + 2 * x5))), (0, .ref (a 0)), (1, .int p0)]) hx hb dX5_flip_5 rfl hl (by decide) rfl (fun ls hl => ?_)
  refine lv_aload_n hx hb dX5_flip_6 rfl (lv_at hl 1 rfl) ?_
  refine gf hX hB cw0 rfl in5 1 (by decide) wm_1_138 rfl rfl dX5_flip_7 ?_
  refine lv_aload_n hx hb dX5_flip_10 rfl (lv_at hl 0 rfl) ?_
  refine gfN hX hB (cwG (i := x5) (lt15 hx5)) rfl in3 2 (by decide) wn_1_57 rfl rfl dX5_flip_11 ?_
  refine lv_aload_n hx hb dX5_flip_14 rfl (lv_at hl 0 rfl) ?_
  refine gfN hX hB (cwG (i := x5) (lt15 hx5)) rfl in3 1 (by decide) wn_1_51 rfl rfl dX5_flip_15 ?_
  obtain ⟨r7, q9, f11, hd6⟩ := ex3 (D_X3_reshape r q f 4 (r (2 * x5 + 1)) (r (2 * x5)))
  replace hR := bnd3_use hd6 hR
  refine call_V (n := 2) (As := [.int (r (2 * x5 + 1)), .int (r (2 * x5))]) (rest := []) hX hB (k_X3_reshape κ l a r q f 4 (r (2 * x5 + 1)) (r (2 * x5)) (by decide) r7 q9 f11 hd6) ⟨rfl, yk_X3_reshape⟩ wm_3_23 wm_1_213 wm_1_214 wm_1_2 wm_1_215 ⟨Nat.le_of_ble_eq_true rfl, Nat.le_of_ble_eq_true rfl⟩ ⟨Nat.le_of_ble_eq_true rfl, Nat.le_of_ble_eq_true rfl⟩ (cwG (i := 4) (by decide)) rfl rfl rfl hl.1 rfl (Nat.le_of_ble_eq_true rfl) dX5_flip_18 (fun o w' H locs hp hB => ?_)
  obtain ⟨rfl, ho8, hq10, rfl⟩ := hp
  refine W.eq (g2 := F0 m 21 ls []) rfl ?_
  refine lv_iconst (v := 0) hx hb dX5_flip_21 (by decide) ?_
  refine lv_istore_n (lv' := [(3, .int 0), (2, .ref (a (6 + 2 * x5))), (0, .ref (a 0)), (1, .int p0)]) hx hb dX5_flip_22 rfl hl (by decide) rfl (fun ls hl => ?_)
  have lp23 : ∀ (nn23 : Nat) (y3_23 : Int32) (f_23 : Nat → Nat → Int64) (H : Heap) (locs : List Loc), gap (r7 (2 * x5)) y3_23 < nn23 → D_X5_flip_23 x5 r7 q9 nn23 y3_23 f_23 = (o_E, o_x, o_r, o_q, o_f) → Bd κ A s (cw κ a r7 q9 f_23) H locs → ∀ ls : Array Slot, lv_has ls 5 [(3, .int y3_23), (2, .ref (a (6 + 2 * x5))), (0, .ref (a 0)), (1, .int p0)] → W p l e (Rm 7 111 1 6) s m args below meth c H locs 1 6 Q (F0 m 23 ls []) := by
    intro nn23
    induction nn23 with
    | zero => intro y3_23 f_23 H locs hμ; exact absurd hμ (Nat.not_lt_zero _)
    | succ nn23 ih23 =>
      intro y3_23 f_23 H locs hμ23 hR hB ls hl
      replace hR := (D_X5_flip_23_s).symm.trans hR
      refine lv_iload_n hx hb dX5_flip_23 rfl (lv_at hl 0 rfl) ?_
      refine lv_aload_n hx hb dX5_flip_24 rfl (lv_at hl 1 rfl) ?_
      refine gfN hX hB (cwG (i := x5) (lt15 hx5)) rfl in3 1 (by decide) wn_1_51 rfl rfl dX5_flip_25 ?_
      refine lv_icmp_ge (tgt := 72) hx hb dX5_flip_28 (by decide) (fun c114 => ?_) (fun c114 => ?_)
      · replace hR := ifp c114 hR
        refine lv_aload_n hx hb dX5_flip_72 rfl (lv_at hl 1 rfl) ?_
        refine lv_aload_n hx hb dX5_flip_73 rfl (lv_at hl 2 rfl) ?_
        refine gf hX hB cw0 rfl in5 1 (by decide) wm_1_138 rfl rfl dX5_flip_74 ?_
        obtain ⟨r116, q118, f120, hd115⟩ := ex3 (D_X3_becomeLike r7 q9 f_23 x5 4)
        replace hR := bnd3_use hd115 hR
        refine call_V (n := 1) (As := [.ref (a 14)]) (rest := []) hX hB (k_X3_becomeLike κ l a r7 q9 f_23 x5 4 (lt15 hx5) (by decide) r116 q118 f120 hd115) ⟨rfl, yk_X3_becomeLike⟩ wm_3_74 wm_1_205 wm_1_206 wm_1_2 wm_1_207 ⟨Nat.le_of_ble_eq_true rfl, Nat.le_of_ble_eq_true rfl⟩ ⟨Nat.le_of_ble_eq_true rfl, Nat.le_of_ble_eq_true rfl⟩ (cwG (i := x5) (lt15 hx5)) rfl rfl rfl hl.1 rfl (Nat.le_of_ble_eq_true rfl) dX5_flip_77 (fun o w' H locs hp hB => ?_)
        obtain ⟨rfl, ho117, hq119, rfl⟩ := hp
        refine W.eq (g2 := F0 m 80 ls []) rfl ?_
        refine lv_aload_n hx hb dX5_flip_80 rfl (lv_at hl 2 rfl) ?_
        refine lv_aload_n hx hb dX5_flip_81 rfl (lv_at hl 1 rfl) ?_
        refine gfN hX hB (cwG (i := x5) (lt15 hx5)) rfl in3 1 (by decide) wn_1_51 rfl rfl dX5_flip_82 ?_
        obtain ⟨x122, q123, f125, hd121⟩ := ex3 (D_X5_tellDone r116 q118 f120 (r116 (2 * x5)))
        replace hR := bnd3_use hd121 hR
        refine call_V (n := 1) (As := [.int (r116 (2 * x5))]) (rest := []) hX hB (k_X5_tellDone κ l a r116 q118 f120 (r116 (2 * x5)) x122 q123 f125 hd121) ⟨rfl, yk_X5_tellDone⟩ wm_3_24 wm_3_26 wp_19 wm_1_1 wm_3_27 ⟨Nat.le_of_ble_eq_true rfl, Nat.le_of_ble_eq_true rfl⟩ ⟨Nat.le_of_ble_eq_true rfl, Nat.le_of_ble_eq_true rfl⟩ cw0 rfl rfl rfl hl.1 rfl (Nat.le_of_ble_eq_true rfl) dX5_flip_85 (fun o w' H locs hp hB => ?_)
        obtain ⟨rfl, hq124, rfl⟩ := hp
        refine W.eq (g2 := F0 m 88 ls [.int x122]) rfl ?_
        rw [← hQ]
        exact vx_ret ( end_i hX hB hA3 rfl rfl (by obtain ⟨rfl, rfl, rfl, rfl, rfl⟩ := pr5 hR; exact ⟨rfl, rfl, (fun h => ho117 ((fun h => ho8 ((fun h => h) h)) h)), (hq124.trans (hq119.trans (hq10.trans rfl))), rfl⟩) (Nat.le_of_ble_eq_true rfl) (Nat.le_of_ble_eq_true rfl) dX5_flip_88)
      · replace hR := ifn c114 hR
        refine lv_iconst (v := 0) hx hb dX5_flip_31 (by decide) ?_
        refine lv_istore (lv' := [(4, .int 0), (3, .int y3_23), (2, .ref (a (6 + 2 * x5))), (0, .ref (a 0)), (1, .int p0)]) hx hb dX5_flip_32 hl (by decide) rfl (fun ls hl => ?_)
        have lp34 : ∀ (nn34 : Nat) (y4_34 : Int32) (f_34 : Nat → Nat → Int64) (H : Heap) (locs : List Loc), gap (r7 (2 * x5 + 1)) y4_34 < nn34 → D_X5_flip_34 x5 r7 q9 (D_X5_flip_23 x5 r7 q9 nn23) y3_23 nn34 y4_34 f_34 = (o_E, o_x, o_r, o_q, o_f) → Bd κ A s (cw κ a r7 q9 f_34) H locs → ∀ ls : Array Slot, lv_has ls 5 [(4, .int y4_34), (3, .int y3_23), (2, .ref (a (6 + 2 * x5))), (0, .ref (a 0)), (1, .int p0)] → W p l e (Rm 7 111 1 6) s m args below meth c H locs 1 6 Q (F0 m 34 ls []) := by
          intro nn34
          induction nn34 with
          | zero => intro y4_34 f_34 H locs hμ; exact absurd hμ (Nat.not_lt_zero _)
          | succ nn34 ih34 =>
            intro y4_34 f_34 H locs hμ34 hR hB ls hl
            replace hR := (D_X5_flip_34_s).symm.trans hR
            refine lv_iload hx hb dX5_flip_34 (lv_at hl 0 rfl) ?_
            refine lv_aload_n hx hb dX5_flip_36 rfl (lv_at hl 2 rfl) ?_
            refine gfN hX hB (cwG (i := x5) (lt15 hx5)) rfl in3 2 (by decide) wn_1_57 rfl rfl dX5_flip_37 ?_
            refine lv_icmp_ge (tgt := 66) hx hb dX5_flip_40 (by decide) (fun c136 => ?_) (fun c136 => ?_)
            · replace hR := ifp c136 hR
              refine lv_iinc (v := y3_23 + 1) (lv' := [(3, .int (y3_23 + 1)), (4, .int y4_34), (2, .ref (a (6 + 2 * x5))), (0, .ref (a 0)), (1, .int p0)]) hx hb dX5_flip_66 hl (k := 1) rfl rfl (by decide) rfl (fun ls hl => ?_)
              refine lv_goto (tgt := 23) hx hb dX5_flip_69 (by decide) ?_
              exact ih23 (y3_23 + 1) f_34 _ _  (gap_step c114 hμ23) hR hB _ (lv_sub hl [0, 2, 3, 4] rfl)
            · replace hR := ifn c136 hR
              refine lv_aload_n hx hb dX5_flip_43 rfl (lv_at hl 3 rfl) ?_
              refine gf hX hB cw0 rfl in5 1 (by decide) wm_1_138 rfl rfl dX5_flip_44 ?_
              refine lv_iload hx hb dX5_flip_47 (lv_at hl 0 rfl) ?_
              refine lv_iload_n hx hb dX5_flip_49 rfl (lv_at hl 1 rfl) ?_
              refine lv_aload_n hx hb dX5_flip_50 rfl (lv_at hl 2 rfl) ?_
              refine lv_iload_n hx hb dX5_flip_51 rfl (lv_at hl 1 rfl) ?_
              refine lv_iload hx hb dX5_flip_52 (lv_at hl 0 rfl) ?_
              obtain ⟨x138, hd137⟩ := ex1 (D_X3_get r7 q9 f_34 x5 y3_23 y4_34)
              replace hR := bnd1_use hd137 hR
              refine call_V (n := 2) (As := [.int y3_23, .int y4_34]) (rest := [.int y3_23, .int y4_34, .ref (a 14)]) hX hB (k_X3_get κ l a r7 q9 f_34 x5 y3_23 y4_34 (lt15 hx5) x138 hd137) ⟨rfl, yk_X3_get⟩ wm_2_123 wm_1_187 wm_1_188 wm_1_2 wm_1_189 ⟨Nat.le_of_ble_eq_true rfl, Nat.le_of_ble_eq_true rfl⟩ ⟨Nat.le_of_ble_eq_true rfl, Nat.le_of_ble_eq_true rfl⟩ (cwG (i := x5) (lt15 hx5)) rfl rfl rfl hl.1 rfl (Nat.le_of_ble_eq_true rfl) dX5_flip_54 (fun o w' H locs hp hB => ?_)
              obtain ⟨rfl, rfl⟩ := hp
              refine W.eq (g2 := F0 m 57 ls [.long x138, .int y3_23, .int y4_34, .ref (a 14)]) rfl ?_
              obtain ⟨f140, hd139⟩ := ex1 (D_X3_set r7 q9 f_34 4 y4_34 y3_23 x138)
              replace hR := bnd1_use hd139 hR
              refine call_V (n := 3) (As := [.int y4_34, .int y3_23, .long x138]) (rest := []) hX hB (k_X3_set κ l a r7 q9 f_34 4 y4_34 y3_23 x138 (by decide) f140 hd139) ⟨rfl, yk_X3_set⟩ wm_3_51 wm_1_223 wm_1_224 wm_1_2 wm_1_225 ⟨Nat.le_of_ble_eq_true rfl, Nat.le_of_ble_eq_true rfl⟩ ⟨Nat.le_of_ble_eq_true rfl, Nat.le_of_ble_eq_true rfl⟩ (cwG (i := 4) (by decide)) rfl rfl rfl hl.1 rfl (Nat.le_of_ble_eq_true rfl) dX5_flip_57 (fun o w' H locs hp hB => ?_)
              obtain ⟨rfl, rfl⟩ := hp
              refine W.eq (g2 := F0 m 60 ls []) rfl ?_
              refine lv_iinc (v := y4_34 + 1) (lv' := [(4, .int (y4_34 + 1)), (3, .int y3_23), (2, .ref (a (6 + 2 * x5))), (0, .ref (a 0)), (1, .int p0)]) hx hb dX5_flip_60 hl (k := 0) rfl rfl (by decide) rfl (fun ls hl => ?_)
              refine lv_goto (tgt := 34) hx hb dX5_flip_63 (by decide) ?_
              exact ih34 (y4_34 + 1) f140 _ _  (gap_step c136 hμ34) hR hB _ hl
        exact lp34 _ 0 f_23 _ _  (Nat.lt_succ_self _) hR hB _ hl
  exact lp23 _ 0 f11 _ _  (Nat.lt_succ_self _) hR hB _ hl
noncomputable def D_X5_exchange_j33 (r : Nat → Int32) (q : Nat → Int32) (f : Nat → Nat → Int64) (p1 : Int32) (p2 : Int32) (p3 : Int32) (x5 : Nat) (z0_33 : Int32) : String × Int32 × (Nat → Int32) × (Nat → Int32) × (Nat → Nat → Int64) := bnd1 (D_X5_needIndex r q f z0_33) (fun (E13 : String) => (if E13 = "" then bnd3 (D_X3_becomeLike r q f 4 x5) (fun (r17 : Nat → Int32) (q19 : Nat → Int32) (f21 : Nat → Nat → Int64) => bnd1 (D_X3_exchangeLines r17 q19 f21 4 p1 p2 p3) (fun (f23 : Nat → Nat → Int64) => bnd4 (D_X5_settleChange r17 q19 f23 x5) (fun (x25 : Int32) (r26 : Nat → Int32) (q28 : Nat → Int32) (f30 : Nat → Nat → Int64) => ("", x25, r26, q28, f30)))) else (E13, 0, r, q, f)))
theorem D_X5_exchange_j33_s {r : Nat → Int32} {q : Nat → Int32} {f : Nat → Nat → Int64} {p1 : Int32} {p2 : Int32} {p3 : Int32} {x5 : Nat} {z0_33 : Int32} : D_X5_exchange_j33 r q f p1 p2 p3 x5 z0_33 = bnd1 (D_X5_needIndex r q f z0_33) (fun (E13 : String) => (if E13 = "" then bnd3 (D_X3_becomeLike r q f 4 x5) (fun (r17 : Nat → Int32) (q19 : Nat → Int32) (f21 : Nat → Nat → Int64) => bnd1 (D_X3_exchangeLines r17 q19 f21 4 p1 p2 p3) (fun (f23 : Nat → Nat → Int64) => bnd4 (D_X5_settleChange r17 q19 f23 x5) (fun (x25 : Int32) (r26 : Nat → Int32) (q28 : Nat → Int32) (f30 : Nat → Nat → Int64) => ("", x25, r26, q28, f30)))) else (E13, 0, r, q, f))) := rfl
noncomputable def D_X5_exchange (r : Nat → Int32) (q : Nat → Int32) (f : Nat → Nat → Int64) (p0 : Int32) (p1 : Int32) (p2 : Int32) (p3 : Int32) : String × Int32 × (Nat → Int32) × (Nat → Int32) × (Nat → Nat → Int64) := bnd2 (D_X5_needTable r q f p0) (fun (E2 : String) (x5 : Nat) => (if E2 = "" then bnd1 (D_X3_hasLine r q f x5 p1 p2) (fun (x7 : Int32) => (if x7 = 0 then (D_X5_exchange_j33 r q f p1 p2 p3 x5 0) else bnd1 (D_X3_hasLine r q f x5 p1 p3) (fun (x33 : Int32) => (if x33 = 0 then (D_X5_exchange_j33 r q f p1 p2 p3 x5 0) else (D_X5_exchange_j33 r q f p1 p2 p3 x5 1))))) else (E2, 0, r, q, f)))
theorem D_X5_exchange_s {r : Nat → Int32} {q : Nat → Int32} {f : Nat → Nat → Int64} {p0 : Int32} {p1 : Int32} {p2 : Int32} {p3 : Int32} : D_X5_exchange r q f p0 p1 p2 p3 = bnd2 (D_X5_needTable r q f p0) (fun (E2 : String) (x5 : Nat) => (if E2 = "" then bnd1 (D_X3_hasLine r q f x5 p1 p2) (fun (x7 : Int32) => (if x7 = 0 then (D_X5_exchange_j33 r q f p1 p2 p3 x5 0) else bnd1 (D_X3_hasLine r q f x5 p1 p3) (fun (x33 : Int32) => (if x33 = 0 then (D_X5_exchange_j33 r q f p1 p2 p3 x5 0) else (D_X5_exchange_j33 r q f p1 p2 p3 x5 1))))) else (E2, 0, r, q, f))) := rfl
set_option maxHeartbeats 4000000 in
set_option maxRecDepth 100000 in
theorem k_X5_exchange (κ : Kt) (l : Launch) (hst : l.stackTraces = false) (a : Nat → Nat) (r q : Nat → Int32) (f : Nat → Nat → Int64) (p0 : Int32) (p1 : Int32) (p2 : Int32) (p3 : Int32)  (o_E : String) (o_x : Int32) (o_r : Nat → Int32) (o_q : Nat → Int32) (o_f : Nat → Nat → Int64) (hR : D_X5_exchange r q f p0 p1 p2 p3 = (o_E, o_x, o_r, o_q, o_f)) : CX κ l yX5_exchange cX5_exchange 6 (some .int) 7 111 2 12 [.ref (a 0), .int p0, .int p1, .int p2, .int p3] (cw κ a r q f) (fun o w' => o_E = "" ∧ o = some (.int o_x) ∧ (okr r → okr o_r) ∧ o_q 4 = q 4 ∧ w' = cw κ a o_r o_q o_f) (fun E w' => o_E = E ∧ o_E ∈ (["java/lang/IndexOutOfBoundsException"] : List String) ∧ (okr r → okr o_r) ∧ o_q 4 = q 4 ∧ w' = cw κ a o_r o_q o_f) := by
  refine CX_begin (by decide) (Nat.le_of_ble_eq_true rfl) ?_
  intro p e s m args below meth c A Q hX hne hA3 hQ hB ls hl
  have hx := hX.1.1
  have hb := hX.1.2.1
  have hl : lv_has ls 6 [(0, .ref (a 0)), (1, .int p0), (2, .int p1), (3, .int p2), (4, .int p3)] := hl
  replace hR := (D_X5_exchange_s).symm.trans hR
  refine lv_aload_n hx hb dX5_exchange_0 rfl (lv_at hl 0 rfl) ?_
  refine lv_iload_n hx hb dX5_exchange_1 rfl (lv_at hl 1 rfl) ?_
  obtain ⟨E2, x5, hd1⟩ := ex2 (D_X5_needTable r q f p0)
  replace hR := bnd2_use hd1 hR
  refine CX_after2 hX hB (run_XV (n := 1) (As := [.int p0]) (rest := []) hX hB (k_X5_needTable κ l hst a r q f p0 E2 x5 hd1) ⟨rfl, yk_X5_needTable⟩ wm_2_165 wm_2_167 wp_17 wm_1_1 wm_2_168 ⟨Nat.le_of_ble_eq_true rfl, Nat.le_of_ble_eq_true rfl⟩ ⟨Nat.le_of_ble_eq_true rfl, Nat.le_of_ble_eq_true rfl⟩ cw0 rfl rfl rfl hl.1 rfl (Nat.le_of_ble_eq_true rfl) dX5_exchange_2) (fun E ce q9 w' H locs hp hB hce hcv hcl => ?_) (fun o w' H locs hp hB => ?_)
  · obtain ⟨he3, hE4, rfl⟩ := hp
    replace hR := ifn (ne_mt hE4 (by decide)) hR
    rw [← hQ]
    exact thrown_on hX hne hB hA3 hce hcv hcl (by obtain ⟨rfl, rfl, rfl, rfl, rfl⟩ := pr5 hR; exact ⟨he3, ((by decide : ∀ x ∈ (["java/lang/IndexOutOfBoundsException"] : List String), x ∈ (["java/lang/IndexOutOfBoundsException"] : List String)) _ hE4), (fun h => h), rfl, rfl⟩) (Nat.le_of_ble_eq_true rfl) (Nat.le_of_ble_eq_true rfl)
  obtain ⟨he3, hx5, rfl, rfl⟩ := hp
  replace hR := ifp he3 hR
  refine W.eq (g2 := F0 m 5 ls [.ref (a (6 + 2 * x5))]) rfl ?_
  refine lv_astore (lv' := [(5, .ref (a (6 + 2 * x5))), (0, .ref (a 0)), (1, .int p0), (2, .int p1), (3, .int p2), (4, .int p3)]) hx hb dX5_exchange_5 hl (by decide) rfl (fun ls hl => ?_)
  refine lv_aload hx hb dX5_exchange_7 (lv_at hl 0 rfl) ?_
  refine lv_iload_n hx hb dX5_exchange_9 rfl (lv_at hl 3 rfl) ?_
  refine lv_iload_n hx hb dX5_exchange_10 rfl (lv_at hl 4 rfl) ?_
  obtain ⟨x7, hd6⟩ := ex1 (D_X3_hasLine r q f x5 p1 p2)
  replace hR := bnd1_use hd6 hR
  refine call_V (n := 2) (As := [.int p1, .int p2]) (rest := []) hX hB (k_X3_hasLine κ l a r q f x5 p1 p2 (lt15 hx5) x7 hd6) ⟨rfl, yk_X3_hasLine⟩ wm_3_43 wm_3_44 wm_3_45 wm_1_2 wm_3_46 ⟨Nat.le_of_ble_eq_true rfl, Nat.le_of_ble_eq_true rfl⟩ ⟨Nat.le_of_ble_eq_true rfl, Nat.le_of_ble_eq_true rfl⟩ (cwG (i := x5) (lt15 hx5)) rfl rfl rfl hl.1 rfl (Nat.le_of_ble_eq_true rfl) dX5_exchange_11 (fun o w' H locs hp hB => ?_)
  obtain ⟨rfl, bx7, rfl⟩ := hp
  refine W.eq (g2 := F0 m 14 ls [.int x7]) rfl ?_
  have jn33 : ∀ (z0_33 : Int32) (H : Heap) (locs : List Loc), (z0_33 = 0 ∨ z0_33 = 1) → D_X5_exchange_j33 r q f p1 p2 p3 x5 z0_33 = (o_E, o_x, o_r, o_q, o_f) → Bd κ A s (cw κ a r q f) H locs → ∀ ls : Array Slot, lv_has ls 6 [(5, .ref (a (6 + 2 * x5))), (0, .ref (a 0)), (1, .int p0), (2, .int p1), (3, .int p2), (4, .int p3)] → W p l e (Rm 7 111 2 12) s m args below meth c H locs 1 6 Q (F0 m 33 ls [.int z0_33]) := by
    intro z0_33 H locs hz0_33 hR hB ls hl
    replace hR := (D_X5_exchange_j33_s).symm.trans hR
    obtain ⟨E13, hd12⟩ := ex1 (D_X5_needIndex r q f z0_33)
    replace hR := bnd1_use hd12 hR
    refine CX_after2 hX hB (run_XS (n := 1) (As := [.int z0_33]) (rest := []) hX hB (k_X5_needIndex κ l hst a r q f z0_33 E13 hd12) yk_X5_needIndex wm_3_47 wm_3_48 wm_1_1 wm_3_49 ⟨Nat.le_of_ble_eq_true rfl, Nat.le_of_ble_eq_true rfl⟩ ⟨Nat.le_of_ble_eq_true rfl, Nat.le_of_ble_eq_true rfl⟩ rfl hl.1 rfl (Nat.le_of_ble_eq_true rfl) dX5_exchange_33) (fun E ce q9 w' H locs hp hB hce hcv hcl => ?_) (fun o w' H locs hp hB => ?_)
    · obtain ⟨he14, hE15, rfl⟩ := hp
      replace hR := ifn (ne_mt hE15 (by decide)) hR
      rw [← hQ]
      exact thrown_on hX hne hB hA3 hce hcv hcl (by obtain ⟨rfl, rfl, rfl, rfl, rfl⟩ := pr5 hR; exact ⟨he14, ((by decide : ∀ x ∈ (["java/lang/IndexOutOfBoundsException"] : List String), x ∈ (["java/lang/IndexOutOfBoundsException"] : List String)) _ hE15), (fun h => h), rfl, rfl⟩) (Nat.le_of_ble_eq_true rfl) (Nat.le_of_ble_eq_true rfl)
    obtain ⟨he14, rfl, rfl⟩ := hp
    replace hR := ifp he14 hR
    refine W.eq (g2 := F0 m 36 ls []) rfl ?_
    refine lv_aload_n hx hb dX5_exchange_36 rfl (lv_at hl 1 rfl) ?_
    refine gf hX hB cw0 rfl in5 1 (by decide) wm_1_138 rfl rfl dX5_exchange_37 ?_
    refine lv_aload hx hb dX5_exchange_40 (lv_at hl 0 rfl) ?_
    obtain ⟨r17, q19, f21, hd16⟩ := ex3 (D_X3_becomeLike r q f 4 x5)
    replace hR := bnd3_use hd16 hR
    refine call_V (n := 1) (As := [.ref (a (6 + 2 * x5))]) (rest := []) hX hB (k_X3_becomeLike κ l a r q f 4 x5 (by decide) (lt15 hx5) r17 q19 f21 hd16) ⟨rfl, yk_X3_becomeLike⟩ wm_3_74 wm_1_205 wm_1_206 wm_1_2 wm_1_207 ⟨Nat.le_of_ble_eq_true rfl, Nat.le_of_ble_eq_true rfl⟩ ⟨Nat.le_of_ble_eq_true rfl, Nat.le_of_ble_eq_true rfl⟩ (cwG (i := 4) (by decide)) rfl rfl rfl hl.1 rfl (Nat.le_of_ble_eq_true rfl) dX5_exchange_42 (fun o w' H locs hp hB => ?_)
    obtain ⟨rfl, ho18, hq20, rfl⟩ := hp
    refine W.eq (g2 := F0 m 45 ls []) rfl ?_
    refine lv_aload_n hx hb dX5_exchange_45 rfl (lv_at hl 1 rfl) ?_
    refine gf hX hB cw0 rfl in5 1 (by decide) wm_1_138 rfl rfl dX5_exchange_46 ?_
    refine lv_iload_n hx hb dX5_exchange_49 rfl (lv_at hl 3 rfl) ?_
    refine lv_iload_n hx hb dX5_exchange_50 rfl (lv_at hl 4 rfl) ?_
    refine lv_iload hx hb dX5_exchange_51 (lv_at hl 5 rfl) ?_
    obtain ⟨f23, hd22⟩ := ex1 (D_X3_exchangeLines r17 q19 f21 4 p1 p2 p3)
    replace hR := bnd1_use hd22 hR
    refine call_V (n := 3) (As := [.int p1, .int p2, .int p3]) (rest := []) hX hB (k_X3_exchangeLines κ l a r17 q19 f21 4 p1 p2 p3 (by decide) f23 hd22) ⟨rfl, yk_X3_exchangeLines⟩ wm_3_96 wm_2_4 wm_2_5 wm_1_2 wm_2_6 ⟨Nat.le_of_ble_eq_true rfl, Nat.le_of_ble_eq_true rfl⟩ ⟨Nat.le_of_ble_eq_true rfl, Nat.le_of_ble_eq_true rfl⟩ (cwG (i := 4) (by decide)) rfl rfl rfl hl.1 rfl (Nat.le_of_ble_eq_true rfl) dX5_exchange_53 (fun o w' H locs hp hB => ?_)
    obtain ⟨rfl, rfl⟩ := hp
    refine W.eq (g2 := F0 m 56 ls []) rfl ?_
    refine lv_aload_n hx hb dX5_exchange_56 rfl (lv_at hl 1 rfl) ?_
    refine lv_aload hx hb dX5_exchange_57 (lv_at hl 0 rfl) ?_
    obtain ⟨x25, r26, q28, f30, hd24⟩ := ex4 (D_X5_settleChange r17 q19 f23 x5)
    replace hR := bnd4_use hd24 hR
    refine call_V (n := 1) (As := [.ref (a (6 + 2 * x5))]) (rest := []) hX hB (k_X5_settleChange κ l a r17 q19 f23 x5 (lt15 hx5) x25 r26 q28 f30 hd24) ⟨rfl, yk_X5_settleChange⟩ wm_3_97 wm_3_99 wp_20 wm_1_1 wm_3_100 ⟨Nat.le_of_ble_eq_true rfl, Nat.le_of_ble_eq_true rfl⟩ ⟨Nat.le_of_ble_eq_true rfl, Nat.le_of_ble_eq_true rfl⟩ cw0 rfl rfl rfl hl.1 rfl (Nat.le_of_ble_eq_true rfl) dX5_exchange_59 (fun o w' H locs hp hB => ?_)
    obtain ⟨rfl, ho27, hq29, rfl⟩ := hp
    refine W.eq (g2 := F0 m 62 ls [.int x25]) rfl ?_
    rw [← hQ]
    exact vx_ret ( end_i hX hB hA3 rfl rfl (by obtain ⟨rfl, rfl, rfl, rfl, rfl⟩ := pr5 hR; exact ⟨rfl, rfl, (fun h => ho27 ((fun h => ho18 ((fun h => h) h)) h)), (hq29.trans (hq20.trans rfl)), rfl⟩) (Nat.le_of_ble_eq_true rfl) (Nat.le_of_ble_eq_true rfl) dX5_exchange_62)
  refine lv_if_eq (tgt := 32) hx hb dX5_exchange_14 (by decide) (fun c31 => ?_) (fun c31 => ?_)
  · replace hR := ifp c31 hR
    refine lv_iconst (v := 0) hx hb dX5_exchange_32 (by decide) ?_
    exact jn33 0 _ _ (Or.inl rfl) hR hB _ hl
  · replace hR := ifn c31 hR
    refine lv_aload hx hb dX5_exchange_17 (lv_at hl 0 rfl) ?_
    refine lv_iload_n hx hb dX5_exchange_19 rfl (lv_at hl 3 rfl) ?_
    refine lv_iload hx hb dX5_exchange_20 (lv_at hl 5 rfl) ?_
    obtain ⟨x33, hd32⟩ := ex1 (D_X3_hasLine r q f x5 p1 p3)
    replace hR := bnd1_use hd32 hR
    refine call_V (n := 2) (As := [.int p1, .int p3]) (rest := []) hX hB (k_X3_hasLine κ l a r q f x5 p1 p3 (lt15 hx5) x33 hd32) ⟨rfl, yk_X3_hasLine⟩ wm_3_43 wm_3_44 wm_3_45 wm_1_2 wm_3_46 ⟨Nat.le_of_ble_eq_true rfl, Nat.le_of_ble_eq_true rfl⟩ ⟨Nat.le_of_ble_eq_true rfl, Nat.le_of_ble_eq_true rfl⟩ (cwG (i := x5) (lt15 hx5)) rfl rfl rfl hl.1 rfl (Nat.le_of_ble_eq_true rfl) dX5_exchange_22 (fun o w' H locs hp hB => ?_)
    obtain ⟨rfl, bx33, rfl⟩ := hp
    refine W.eq (g2 := F0 m 25 ls [.int x33]) rfl ?_
    refine lv_if_eq (tgt := 32) hx hb dX5_exchange_25 (by decide) (fun c34 => ?_) (fun c34 => ?_)
    · replace hR := ifp c34 hR
      refine lv_iconst (v := 0) hx hb dX5_exchange_32 (by decide) ?_
      exact jn33 0 _ _ (Or.inl rfl) hR hB _ hl
    · replace hR := ifn c34 hR
      refine lv_iconst (v := 1) hx hb dX5_exchange_28 (by decide) ?_
      refine lv_goto (tgt := 33) hx hb dX5_exchange_29 (by decide) ?_
      exact jn33 1 _ _ (Or.inr rfl) hR hB _ hl
noncomputable def D_X5_turn (r : Nat → Int32) (q : Nat → Int32) (f : Nat → Nat → Int64) (p0 : Int32) (p1 : Int32) (p2 : Int32) : String × Int32 × (Nat → Int32) × (Nat → Int32) × (Nat → Nat → Int64) := bnd2 (D_X5_needTable r q f p0) (fun (E2 : String) (x5 : Nat) => (if E2 = "" then bnd1 (D_X3_hasLine r q f x5 p1 p2) (fun (x7 : Int32) => bnd1 (D_X5_needIndex r q f x7) (fun (E9 : String) => (if E9 = "" then bnd3 (D_X3_becomeLike r q f 4 x5) (fun (r13 : Nat → Int32) (q15 : Nat → Int32) (f17 : Nat → Nat → Int64) => bnd1 (D_X3_turnLine r13 q15 f17 4 p1 p2) (fun (f19 : Nat → Nat → Int64) => bnd4 (D_X5_settleChange r13 q15 f19 x5) (fun (x21 : Int32) (r22 : Nat → Int32) (q24 : Nat → Int32) (f26 : Nat → Nat → Int64) => ("", x21, r22, q24, f26)))) else (E9, 0, r, q, f)))) else (E2, 0, r, q, f)))
theorem D_X5_turn_s {r : Nat → Int32} {q : Nat → Int32} {f : Nat → Nat → Int64} {p0 : Int32} {p1 : Int32} {p2 : Int32} : D_X5_turn r q f p0 p1 p2 = bnd2 (D_X5_needTable r q f p0) (fun (E2 : String) (x5 : Nat) => (if E2 = "" then bnd1 (D_X3_hasLine r q f x5 p1 p2) (fun (x7 : Int32) => bnd1 (D_X5_needIndex r q f x7) (fun (E9 : String) => (if E9 = "" then bnd3 (D_X3_becomeLike r q f 4 x5) (fun (r13 : Nat → Int32) (q15 : Nat → Int32) (f17 : Nat → Nat → Int64) => bnd1 (D_X3_turnLine r13 q15 f17 4 p1 p2) (fun (f19 : Nat → Nat → Int64) => bnd4 (D_X5_settleChange r13 q15 f19 x5) (fun (x21 : Int32) (r22 : Nat → Int32) (q24 : Nat → Int32) (f26 : Nat → Nat → Int64) => ("", x21, r22, q24, f26)))) else (E9, 0, r, q, f)))) else (E2, 0, r, q, f))) := rfl
set_option maxHeartbeats 4000000 in
set_option maxRecDepth 100000 in
theorem k_X5_turn (κ : Kt) (l : Launch) (hst : l.stackTraces = false) (a : Nat → Nat) (r q : Nat → Int32) (f : Nat → Nat → Int64) (p0 : Int32) (p1 : Int32) (p2 : Int32)  (o_E : String) (o_x : Int32) (o_r : Nat → Int32) (o_q : Nat → Int32) (o_f : Nat → Nat → Int64) (hR : D_X5_turn r q f p0 p1 p2 = (o_E, o_x, o_r, o_q, o_f)) : CX κ l yX5_turn cX5_turn 5 (some .int) 7 111 2 12 [.ref (a 0), .int p0, .int p1, .int p2] (cw κ a r q f) (fun o w' => o_E = "" ∧ o = some (.int o_x) ∧ (okr r → okr o_r) ∧ o_q 4 = q 4 ∧ w' = cw κ a o_r o_q o_f) (fun E w' => o_E = E ∧ o_E ∈ (["java/lang/IndexOutOfBoundsException"] : List String) ∧ (okr r → okr o_r) ∧ o_q 4 = q 4 ∧ w' = cw κ a o_r o_q o_f) := by
  refine CX_begin (by decide) (Nat.le_of_ble_eq_true rfl) ?_
  intro p e s m args below meth c A Q hX hne hA3 hQ hB ls hl
  have hx := hX.1.1
  have hb := hX.1.2.1
  have hl : lv_has ls 5 [(0, .ref (a 0)), (1, .int p0), (2, .int p1), (3, .int p2)] := hl
  replace hR := (D_X5_turn_s).symm.trans hR
  refine lv_aload_n hx hb dX5_turn_0 rfl (lv_at hl 0 rfl) ?_
  refine lv_iload_n hx hb dX5_turn_1 rfl (lv_at hl 1 rfl) ?_
  obtain ⟨E2, x5, hd1⟩ := ex2 (D_X5_needTable r q f p0)
  replace hR := bnd2_use hd1 hR
  refine CX_after2 hX hB (run_XV (n := 1) (As := [.int p0]) (rest := []) hX hB (k_X5_needTable κ l hst a r q f p0 E2 x5 hd1) ⟨rfl, yk_X5_needTable⟩ wm_2_165 wm_2_167 wp_17 wm_1_1 wm_2_168 ⟨Nat.le_of_ble_eq_true rfl, Nat.le_of_ble_eq_true rfl⟩ ⟨Nat.le_of_ble_eq_true rfl, Nat.le_of_ble_eq_true rfl⟩ cw0 rfl rfl rfl hl.1 rfl (Nat.le_of_ble_eq_true rfl) dX5_turn_2) (fun E ce q9 w' H locs hp hB hce hcv hcl => ?_) (fun o w' H locs hp hB => ?_)
  · obtain ⟨he3, hE4, rfl⟩ := hp
    replace hR := ifn (ne_mt hE4 (by decide)) hR
    rw [← hQ]
    exact thrown_on hX hne hB hA3 hce hcv hcl (by obtain ⟨rfl, rfl, rfl, rfl, rfl⟩ := pr5 hR; exact ⟨he3, ((by decide : ∀ x ∈ (["java/lang/IndexOutOfBoundsException"] : List String), x ∈ (["java/lang/IndexOutOfBoundsException"] : List String)) _ hE4), (fun h => h), rfl, rfl⟩) (Nat.le_of_ble_eq_true rfl) (Nat.le_of_ble_eq_true rfl)
  obtain ⟨he3, hx5, rfl, rfl⟩ := hp
  replace hR := ifp he3 hR
  refine W.eq (g2 := F0 m 5 ls [.ref (a (6 + 2 * x5))]) rfl ?_
  refine lv_astore (lv' := [(4, .ref (a (6 + 2 * x5))), (0, .ref (a 0)), (1, .int p0), (2, .int p1), (3, .int p2)]) hx hb dX5_turn_5 hl (by decide) rfl (fun ls hl => ?_)
  refine lv_aload hx hb dX5_turn_7 (lv_at hl 0 rfl) ?_
  refine lv_iload_n hx hb dX5_turn_9 rfl (lv_at hl 3 rfl) ?_
  refine lv_iload_n hx hb dX5_turn_10 rfl (lv_at hl 4 rfl) ?_
  obtain ⟨x7, hd6⟩ := ex1 (D_X3_hasLine r q f x5 p1 p2)
  replace hR := bnd1_use hd6 hR
  refine call_V (n := 2) (As := [.int p1, .int p2]) (rest := []) hX hB (k_X3_hasLine κ l a r q f x5 p1 p2 (lt15 hx5) x7 hd6) ⟨rfl, yk_X3_hasLine⟩ wm_3_43 wm_3_44 wm_3_45 wm_1_2 wm_3_46 ⟨Nat.le_of_ble_eq_true rfl, Nat.le_of_ble_eq_true rfl⟩ ⟨Nat.le_of_ble_eq_true rfl, Nat.le_of_ble_eq_true rfl⟩ (cwG (i := x5) (lt15 hx5)) rfl rfl rfl hl.1 rfl (Nat.le_of_ble_eq_true rfl) dX5_turn_11 (fun o w' H locs hp hB => ?_)
  obtain ⟨rfl, bx7, rfl⟩ := hp
  refine W.eq (g2 := F0 m 14 ls [.int x7]) rfl ?_
  obtain ⟨E9, hd8⟩ := ex1 (D_X5_needIndex r q f x7)
  replace hR := bnd1_use hd8 hR
  refine CX_after2 hX hB (run_XS (n := 1) (As := [.int x7]) (rest := []) hX hB (k_X5_needIndex κ l hst a r q f x7 E9 hd8) yk_X5_needIndex wm_3_47 wm_3_48 wm_1_1 wm_3_49 ⟨Nat.le_of_ble_eq_true rfl, Nat.le_of_ble_eq_true rfl⟩ ⟨Nat.le_of_ble_eq_true rfl, Nat.le_of_ble_eq_true rfl⟩ rfl hl.1 rfl (Nat.le_of_ble_eq_true rfl) dX5_turn_14) (fun E ce q9 w' H locs hp hB hce hcv hcl => ?_) (fun o w' H locs hp hB => ?_)
  · obtain ⟨he10, hE11, rfl⟩ := hp
    replace hR := ifn (ne_mt hE11 (by decide)) hR
    rw [← hQ]
    exact thrown_on hX hne hB hA3 hce hcv hcl (by obtain ⟨rfl, rfl, rfl, rfl, rfl⟩ := pr5 hR; exact ⟨he10, ((by decide : ∀ x ∈ (["java/lang/IndexOutOfBoundsException"] : List String), x ∈ (["java/lang/IndexOutOfBoundsException"] : List String)) _ hE11), (fun h => h), rfl, rfl⟩) (Nat.le_of_ble_eq_true rfl) (Nat.le_of_ble_eq_true rfl)
  obtain ⟨he10, rfl, rfl⟩ := hp
  replace hR := ifp he10 hR
  refine W.eq (g2 := F0 m 17 ls []) rfl ?_
  refine lv_aload_n hx hb dX5_turn_17 rfl (lv_at hl 1 rfl) ?_
  refine gf hX hB cw0 rfl in5 1 (by decide) wm_1_138 rfl rfl dX5_turn_18 ?_
  refine lv_aload hx hb dX5_turn_21 (lv_at hl 0 rfl) ?_
  obtain ⟨r13, q15, f17, hd12⟩ := ex3 (D_X3_becomeLike r q f 4 x5)
  replace hR := bnd3_use hd12 hR
  refine call_V (n := 1) (As := [.ref (a (6 + 2 * x5))]) (rest := []) hX hB (k_X3_becomeLike κ l a r q f 4 x5 (by decide) (lt15 hx5) r13 q15 f17 hd12) ⟨rfl, yk_X3_becomeLike⟩ wm_3_74 wm_1_205 wm_1_206 wm_1_2 wm_1_207 ⟨Nat.le_of_ble_eq_true rfl, Nat.le_of_ble_eq_true rfl⟩ ⟨Nat.le_of_ble_eq_true rfl, Nat.le_of_ble_eq_true rfl⟩ (cwG (i := 4) (by decide)) rfl rfl rfl hl.1 rfl (Nat.le_of_ble_eq_true rfl) dX5_turn_23 (fun o w' H locs hp hB => ?_)
  obtain ⟨rfl, ho14, hq16, rfl⟩ := hp
  refine W.eq (g2 := F0 m 26 ls []) rfl ?_
  refine lv_aload_n hx hb dX5_turn_26 rfl (lv_at hl 1 rfl) ?_
  refine gf hX hB cw0 rfl in5 1 (by decide) wm_1_138 rfl rfl dX5_turn_27 ?_
  refine lv_iload_n hx hb dX5_turn_30 rfl (lv_at hl 3 rfl) ?_
  refine lv_iload_n hx hb dX5_turn_31 rfl (lv_at hl 4 rfl) ?_
  obtain ⟨f19, hd18⟩ := ex1 (D_X3_turnLine r13 q15 f17 4 p1 p2)
  replace hR := bnd1_use hd18 hR
  refine call_V (n := 2) (As := [.int p1, .int p2]) (rest := []) hX hB (k_X3_turnLine κ l a r13 q15 f17 4 p1 p2 (by decide) f19 hd18) ⟨rfl, yk_X3_turnLine⟩ wm_3_115 wm_2_9 wm_2_10 wm_1_2 wm_2_11 ⟨Nat.le_of_ble_eq_true rfl, Nat.le_of_ble_eq_true rfl⟩ ⟨Nat.le_of_ble_eq_true rfl, Nat.le_of_ble_eq_true rfl⟩ (cwG (i := 4) (by decide)) rfl rfl rfl hl.1 rfl (Nat.le_of_ble_eq_true rfl) dX5_turn_32 (fun o w' H locs hp hB => ?_)
  obtain ⟨rfl, rfl⟩ := hp
  refine W.eq (g2 := F0 m 35 ls []) rfl ?_
  refine lv_aload_n hx hb dX5_turn_35 rfl (lv_at hl 1 rfl) ?_
  refine lv_aload hx hb dX5_turn_36 (lv_at hl 0 rfl) ?_
  obtain ⟨x21, r22, q24, f26, hd20⟩ := ex4 (D_X5_settleChange r13 q15 f19 x5)
  replace hR := bnd4_use hd20 hR
  refine call_V (n := 1) (As := [.ref (a (6 + 2 * x5))]) (rest := []) hX hB (k_X5_settleChange κ l a r13 q15 f19 x5 (lt15 hx5) x21 r22 q24 f26 hd20) ⟨rfl, yk_X5_settleChange⟩ wm_3_97 wm_3_99 wp_20 wm_1_1 wm_3_100 ⟨Nat.le_of_ble_eq_true rfl, Nat.le_of_ble_eq_true rfl⟩ ⟨Nat.le_of_ble_eq_true rfl, Nat.le_of_ble_eq_true rfl⟩ cw0 rfl rfl rfl hl.1 rfl (Nat.le_of_ble_eq_true rfl) dX5_turn_38 (fun o w' H locs hp hB => ?_)
  obtain ⟨rfl, ho23, hq25, rfl⟩ := hp
  refine W.eq (g2 := F0 m 41 ls [.int x21]) rfl ?_
  rw [← hQ]
  exact vx_ret ( end_i hX hB hA3 rfl rfl (by obtain ⟨rfl, rfl, rfl, rfl, rfl⟩ := pr5 hR; exact ⟨rfl, rfl, (fun h => ho23 ((fun h => ho14 ((fun h => h) h)) h)), (hq25.trans (hq16.trans rfl)), rfl⟩) (Nat.le_of_ble_eq_true rfl) (Nat.le_of_ble_eq_true rfl) dX5_turn_41)
noncomputable def D_X5_add_j61 (r : Nat → Int32) (q : Nat → Int32) (f : Nat → Nat → Int64) (p1 : Int32) (p2 : Int32) (p3 : Int32) (p4 : Int32) (x5 : Nat) (z0_61 : Int32) : String × Int32 × (Nat → Int32) × (Nat → Int32) × (Nat → Nat → Int64) := bnd1 (D_X5_needArgument r q f z0_61) (fun (E20 : String) => (if E20 = "" then bnd3 (D_X3_becomeLike r q f 4 x5) (fun (r24 : Nat → Int32) (q26 : Nat → Int32) (f28 : Nat → Nat → Int64) => bnd1 (D_X3_addLine r24 q26 f28 4 p1 p2 p3 ((p4).toInt64)) (fun (f30 : Nat → Nat → Int64) => bnd4 (D_X5_settleChange r24 q26 f30 x5) (fun (x32 : Int32) (r33 : Nat → Int32) (q35 : Nat → Int32) (f37 : Nat → Nat → Int64) => ("", x32, r33, q35, f37)))) else (E20, 0, r, q, f)))
theorem D_X5_add_j61_s {r : Nat → Int32} {q : Nat → Int32} {f : Nat → Nat → Int64} {p1 : Int32} {p2 : Int32} {p3 : Int32} {p4 : Int32} {x5 : Nat} {z0_61 : Int32} : D_X5_add_j61 r q f p1 p2 p3 p4 x5 z0_61 = bnd1 (D_X5_needArgument r q f z0_61) (fun (E20 : String) => (if E20 = "" then bnd3 (D_X3_becomeLike r q f 4 x5) (fun (r24 : Nat → Int32) (q26 : Nat → Int32) (f28 : Nat → Nat → Int64) => bnd1 (D_X3_addLine r24 q26 f28 4 p1 p2 p3 ((p4).toInt64)) (fun (f30 : Nat → Nat → Int64) => bnd4 (D_X5_settleChange r24 q26 f30 x5) (fun (x32 : Int32) (r33 : Nat → Int32) (q35 : Nat → Int32) (f37 : Nat → Nat → Int64) => ("", x32, r33, q35, f37)))) else (E20, 0, r, q, f))) := rfl
noncomputable def D_X5_add_j33 (r : Nat → Int32) (q : Nat → Int32) (f : Nat → Nat → Int64) (p1 : Int32) (p2 : Int32) (p3 : Int32) (p4 : Int32) (x5 : Nat) (z0_33 : Int32) : String × Int32 × (Nat → Int32) × (Nat → Int32) × (Nat → Nat → Int64) := bnd1 (D_X5_needIndex r q f z0_33) (fun (E13 : String) => (if E13 = "" then (if p2 = p3 then (D_X5_add_j61 r q f p1 p2 p3 p4 x5 0) else (if p4 < (-20) then (D_X5_add_j61 r q f p1 p2 p3 p4 x5 0) else (if 20 < p4 then (D_X5_add_j61 r q f p1 p2 p3 p4 x5 0) else (D_X5_add_j61 r q f p1 p2 p3 p4 x5 1)))) else (E13, 0, r, q, f)))
theorem D_X5_add_j33_s {r : Nat → Int32} {q : Nat → Int32} {f : Nat → Nat → Int64} {p1 : Int32} {p2 : Int32} {p3 : Int32} {p4 : Int32} {x5 : Nat} {z0_33 : Int32} : D_X5_add_j33 r q f p1 p2 p3 p4 x5 z0_33 = bnd1 (D_X5_needIndex r q f z0_33) (fun (E13 : String) => (if E13 = "" then (if p2 = p3 then (D_X5_add_j61 r q f p1 p2 p3 p4 x5 0) else (if p4 < (-20) then (D_X5_add_j61 r q f p1 p2 p3 p4 x5 0) else (if 20 < p4 then (D_X5_add_j61 r q f p1 p2 p3 p4 x5 0) else (D_X5_add_j61 r q f p1 p2 p3 p4 x5 1)))) else (E13, 0, r, q, f))) := rfl
noncomputable def D_X5_add (r : Nat → Int32) (q : Nat → Int32) (f : Nat → Nat → Int64) (p0 : Int32) (p1 : Int32) (p2 : Int32) (p3 : Int32) (p4 : Int32) : String × Int32 × (Nat → Int32) × (Nat → Int32) × (Nat → Nat → Int64) := bnd2 (D_X5_needTable r q f p0) (fun (E2 : String) (x5 : Nat) => (if E2 = "" then bnd1 (D_X3_hasLine r q f x5 p1 p2) (fun (x7 : Int32) => (if x7 = 0 then (D_X5_add_j33 r q f p1 p2 p3 p4 x5 0) else bnd1 (D_X3_hasLine r q f x5 p1 p3) (fun (x43 : Int32) => (if x43 = 0 then (D_X5_add_j33 r q f p1 p2 p3 p4 x5 0) else (D_X5_add_j33 r q f p1 p2 p3 p4 x5 1))))) else (E2, 0, r, q, f)))
theorem D_X5_add_s {r : Nat → Int32} {q : Nat → Int32} {f : Nat → Nat → Int64} {p0 : Int32} {p1 : Int32} {p2 : Int32} {p3 : Int32} {p4 : Int32} : D_X5_add r q f p0 p1 p2 p3 p4 = bnd2 (D_X5_needTable r q f p0) (fun (E2 : String) (x5 : Nat) => (if E2 = "" then bnd1 (D_X3_hasLine r q f x5 p1 p2) (fun (x7 : Int32) => (if x7 = 0 then (D_X5_add_j33 r q f p1 p2 p3 p4 x5 0) else bnd1 (D_X3_hasLine r q f x5 p1 p3) (fun (x43 : Int32) => (if x43 = 0 then (D_X5_add_j33 r q f p1 p2 p3 p4 x5 0) else (D_X5_add_j33 r q f p1 p2 p3 p4 x5 1))))) else (E2, 0, r, q, f))) := rfl
set_option maxHeartbeats 4000000 in
set_option maxRecDepth 100000 in
theorem k_X5_add (κ : Kt) (l : Launch) (hst : l.stackTraces = false) (a : Nat → Nat) (r q : Nat → Int32) (f : Nat → Nat → Int64) (p0 : Int32) (p1 : Int32) (p2 : Int32) (p3 : Int32) (p4 : Int32)  (o_E : String) (o_x : Int32) (o_r : Nat → Int32) (o_q : Nat → Int32) (o_f : Nat → Nat → Int64) (hR : D_X5_add r q f p0 p1 p2 p3 p4 = (o_E, o_x, o_r, o_q, o_f)) : CX κ l yX5_add cX5_add 7 (some .int) 7 111 3 18 [.ref (a 0), .int p0, .int p1, .int p2, .int p3, .int p4] (cw κ a r q f) (fun o w' => o_E = "" ∧ o = some (.int o_x) ∧ (okr r → okr o_r) ∧ o_q 4 = q 4 ∧ w' = cw κ a o_r o_q o_f) (fun E w' => o_E = E ∧ o_E ∈ (["java/lang/IndexOutOfBoundsException", "java/lang/IllegalArgumentException"] : List String) ∧ (okr r → okr o_r) ∧ o_q 4 = q 4 ∧ w' = cw κ a o_r o_q o_f) := by
  refine CX_begin (by decide) (Nat.le_of_ble_eq_true rfl) ?_
  intro p e s m args below meth c A Q hX hne hA3 hQ hB ls hl
  have hx := hX.1.1
  have hb := hX.1.2.1
  have hl : lv_has ls 7 [(0, .ref (a 0)), (1, .int p0), (2, .int p1), (3, .int p2), (4, .int p3), (5, .int p4)] := hl
  replace hR := (D_X5_add_s).symm.trans hR
  refine lv_aload_n hx hb dX5_add_0 rfl (lv_at hl 0 rfl) ?_
  refine lv_iload_n hx hb dX5_add_1 rfl (lv_at hl 1 rfl) ?_
  obtain ⟨E2, x5, hd1⟩ := ex2 (D_X5_needTable r q f p0)
  replace hR := bnd2_use hd1 hR
  refine CX_after2 hX hB (run_XV (n := 1) (As := [.int p0]) (rest := []) hX hB (k_X5_needTable κ l hst a r q f p0 E2 x5 hd1) ⟨rfl, yk_X5_needTable⟩ wm_2_165 wm_2_167 wp_17 wm_1_1 wm_2_168 ⟨Nat.le_of_ble_eq_true rfl, Nat.le_of_ble_eq_true rfl⟩ ⟨Nat.le_of_ble_eq_true rfl, Nat.le_of_ble_eq_true rfl⟩ cw0 rfl rfl rfl hl.1 rfl (Nat.le_of_ble_eq_true rfl) dX5_add_2) (fun E ce q9 w' H locs hp hB hce hcv hcl => ?_) (fun o w' H locs hp hB => ?_)
  · obtain ⟨he3, hE4, rfl⟩ := hp
    replace hR := ifn (ne_mt hE4 (by decide)) hR
    rw [← hQ]
    exact thrown_on hX hne hB hA3 hce hcv hcl (by obtain ⟨rfl, rfl, rfl, rfl, rfl⟩ := pr5 hR; exact ⟨he3, ((by decide : ∀ x ∈ (["java/lang/IndexOutOfBoundsException"] : List String), x ∈ (["java/lang/IndexOutOfBoundsException", "java/lang/IllegalArgumentException"] : List String)) _ hE4), (fun h => h), rfl, rfl⟩) (Nat.le_of_ble_eq_true rfl) (Nat.le_of_ble_eq_true rfl)
  obtain ⟨he3, hx5, rfl, rfl⟩ := hp
  replace hR := ifp he3 hR
  refine W.eq (g2 := F0 m 5 ls [.ref (a (6 + 2 * x5))]) rfl ?_
  refine lv_astore (lv' := [(6, .ref (a (6 + 2 * x5))), (0, .ref (a 0)), (1, .int p0), (2, .int p1), (3, .int p2), (4, .int p3), (5, .int p4)]) hx hb dX5_add_5 hl (by decide) rfl (fun ls hl => ?_)
  refine lv_aload hx hb dX5_add_7 (lv_at hl 0 rfl) ?_
  refine lv_iload_n hx hb dX5_add_9 rfl (lv_at hl 3 rfl) ?_
  refine lv_iload_n hx hb dX5_add_10 rfl (lv_at hl 4 rfl) ?_
  obtain ⟨x7, hd6⟩ := ex1 (D_X3_hasLine r q f x5 p1 p2)
  replace hR := bnd1_use hd6 hR
  refine call_V (n := 2) (As := [.int p1, .int p2]) (rest := []) hX hB (k_X3_hasLine κ l a r q f x5 p1 p2 (lt15 hx5) x7 hd6) ⟨rfl, yk_X3_hasLine⟩ wm_3_43 wm_3_44 wm_3_45 wm_1_2 wm_3_46 ⟨Nat.le_of_ble_eq_true rfl, Nat.le_of_ble_eq_true rfl⟩ ⟨Nat.le_of_ble_eq_true rfl, Nat.le_of_ble_eq_true rfl⟩ (cwG (i := x5) (lt15 hx5)) rfl rfl rfl hl.1 rfl (Nat.le_of_ble_eq_true rfl) dX5_add_11 (fun o w' H locs hp hB => ?_)
  obtain ⟨rfl, bx7, rfl⟩ := hp
  refine W.eq (g2 := F0 m 14 ls [.int x7]) rfl ?_
  have jn33 : ∀ (z0_33 : Int32) (H : Heap) (locs : List Loc), (z0_33 = 0 ∨ z0_33 = 1) → D_X5_add_j33 r q f p1 p2 p3 p4 x5 z0_33 = (o_E, o_x, o_r, o_q, o_f) → Bd κ A s (cw κ a r q f) H locs → ∀ ls : Array Slot, lv_has ls 7 [(6, .ref (a (6 + 2 * x5))), (0, .ref (a 0)), (1, .int p0), (2, .int p1), (3, .int p2), (4, .int p3), (5, .int p4)] → W p l e (Rm 7 111 3 18) s m args below meth c H locs 1 6 Q (F0 m 33 ls [.int z0_33]) := by
    intro z0_33 H locs hz0_33 hR hB ls hl
    replace hR := (D_X5_add_j33_s).symm.trans hR
    obtain ⟨E13, hd12⟩ := ex1 (D_X5_needIndex r q f z0_33)
    replace hR := bnd1_use hd12 hR
    refine CX_after2 hX hB (run_XS (n := 1) (As := [.int z0_33]) (rest := []) hX hB (k_X5_needIndex κ l hst a r q f z0_33 E13 hd12) yk_X5_needIndex wm_3_47 wm_3_48 wm_1_1 wm_3_49 ⟨Nat.le_of_ble_eq_true rfl, Nat.le_of_ble_eq_true rfl⟩ ⟨Nat.le_of_ble_eq_true rfl, Nat.le_of_ble_eq_true rfl⟩ rfl hl.1 rfl (Nat.le_of_ble_eq_true rfl) dX5_add_33) (fun E ce q9 w' H locs hp hB hce hcv hcl => ?_) (fun o w' H locs hp hB => ?_)
    · obtain ⟨he14, hE15, rfl⟩ := hp
      replace hR := ifn (ne_mt hE15 (by decide)) hR
      rw [← hQ]
      exact thrown_on hX hne hB hA3 hce hcv hcl (by obtain ⟨rfl, rfl, rfl, rfl, rfl⟩ := pr5 hR; exact ⟨he14, ((by decide : ∀ x ∈ (["java/lang/IndexOutOfBoundsException"] : List String), x ∈ (["java/lang/IndexOutOfBoundsException", "java/lang/IllegalArgumentException"] : List String)) _ hE15), (fun h => h), rfl, rfl⟩) (Nat.le_of_ble_eq_true rfl) (Nat.le_of_ble_eq_true rfl)
    obtain ⟨he14, rfl, rfl⟩ := hp
    replace hR := ifp he14 hR
    refine W.eq (g2 := F0 m 36 ls []) rfl ?_
    refine lv_iload_n hx hb dX5_add_36 rfl (lv_at hl 4 rfl) ?_
    refine lv_iload hx hb dX5_add_37 (lv_at hl 5 rfl) ?_
    have jn61 : ∀ (z0_61 : Int32) (H : Heap) (locs : List Loc), (z0_61 = 0 ∨ z0_61 = 1) → D_X5_add_j61 r q f p1 p2 p3 p4 x5 z0_61 = (o_E, o_x, o_r, o_q, o_f) → Bd κ A s (cw κ a r q f) H locs → ∀ ls : Array Slot, lv_has ls 7 [(6, .ref (a (6 + 2 * x5))), (0, .ref (a 0)), (1, .int p0), (2, .int p1), (3, .int p2), (4, .int p3), (5, .int p4)] → W p l e (Rm 7 111 3 18) s m args below meth c H locs 2 12 Q (F0 m 61 ls [.int z0_61]) := by
      intro z0_61 H locs hz0_61 hR hB ls hl
      replace hR := (D_X5_add_j61_s).symm.trans hR
      obtain ⟨E20, hd19⟩ := ex1 (D_X5_needArgument r q f z0_61)
      replace hR := bnd1_use hd19 hR
      refine CX_after2 hX hB (run_XS (n := 1) (As := [.int z0_61]) (rest := []) hX hB (k_X5_needArgument κ l hst a r q f z0_61 E20 hd19) yk_X5_needArgument wm_3_0 wm_3_1 wm_1_1 wm_3_2 ⟨Nat.le_of_ble_eq_true rfl, Nat.le_of_ble_eq_true rfl⟩ ⟨Nat.le_of_ble_eq_true rfl, Nat.le_of_ble_eq_true rfl⟩ rfl hl.1 rfl (Nat.le_of_ble_eq_true rfl) dX5_add_61) (fun E ce q9 w' H locs hp hB hce hcv hcl => ?_) (fun o w' H locs hp hB => ?_)
      · obtain ⟨he21, hE22, rfl⟩ := hp
        replace hR := ifn (ne_mt hE22 (by decide)) hR
        rw [← hQ]
        exact thrown_on hX hne hB hA3 hce hcv hcl (by obtain ⟨rfl, rfl, rfl, rfl, rfl⟩ := pr5 hR; exact ⟨he21, ((by decide : ∀ x ∈ (["java/lang/IllegalArgumentException"] : List String), x ∈ (["java/lang/IndexOutOfBoundsException", "java/lang/IllegalArgumentException"] : List String)) _ hE22), (fun h => h), rfl, rfl⟩) (Nat.le_of_ble_eq_true rfl) (Nat.le_of_ble_eq_true rfl)
      obtain ⟨he21, rfl, rfl⟩ := hp
      replace hR := ifp he21 hR
      refine W.eq (g2 := F0 m 64 ls []) rfl ?_
      refine lv_aload_n hx hb dX5_add_64 rfl (lv_at hl 1 rfl) ?_
      refine gf hX hB cw0 rfl in5 1 (by decide) wm_1_138 rfl rfl dX5_add_65 ?_
      refine lv_aload hx hb dX5_add_68 (lv_at hl 0 rfl) ?_
      obtain ⟨r24, q26, f28, hd23⟩ := ex3 (D_X3_becomeLike r q f 4 x5)
      replace hR := bnd3_use hd23 hR
      refine call_V (n := 1) (As := [.ref (a (6 + 2 * x5))]) (rest := []) hX hB (k_X3_becomeLike κ l a r q f 4 x5 (by decide) (lt15 hx5) r24 q26 f28 hd23) ⟨rfl, yk_X3_becomeLike⟩ wm_3_74 wm_1_205 wm_1_206 wm_1_2 wm_1_207 ⟨Nat.le_of_ble_eq_true rfl, Nat.le_of_ble_eq_true rfl⟩ ⟨Nat.le_of_ble_eq_true rfl, Nat.le_of_ble_eq_true rfl⟩ (cwG (i := 4) (by decide)) rfl rfl rfl hl.1 rfl (Nat.le_of_ble_eq_true rfl) dX5_add_70 (fun o w' H locs hp hB => ?_)
      obtain ⟨rfl, ho25, hq27, rfl⟩ := hp
      refine W.eq (g2 := F0 m 73 ls []) rfl ?_
      refine lv_aload_n hx hb dX5_add_73 rfl (lv_at hl 1 rfl) ?_
      refine gf hX hB cw0 rfl in5 1 (by decide) wm_1_138 rfl rfl dX5_add_74 ?_
      refine lv_iload_n hx hb dX5_add_77 rfl (lv_at hl 3 rfl) ?_
      refine lv_iload_n hx hb dX5_add_78 rfl (lv_at hl 4 rfl) ?_
      refine lv_iload hx hb dX5_add_79 (lv_at hl 5 rfl) ?_
      refine lv_iload hx hb dX5_add_81 (lv_at hl 6 rfl) ?_
      refine lv_i2l hx hb dX5_add_83 rfl ?_
      obtain ⟨f30, hd29⟩ := ex1 (D_X3_addLine r24 q26 f28 4 p1 p2 p3 ((p4).toInt64))
      replace hR := bnd1_use hd29 hR
      refine call_V (n := 4) (As := [.int p1, .int p2, .int p3, .long ((p4).toInt64)]) (rest := []) hX hB (k_X3_addLine κ l a r24 q26 f28 4 p1 p2 p3 ((p4).toInt64) (by decide) f30 hd29) ⟨rfl, yk_X3_addLine⟩ wm_3_123 wm_2_23 wm_2_24 wm_1_2 wm_2_25 ⟨Nat.le_of_ble_eq_true rfl, Nat.le_of_ble_eq_true rfl⟩ ⟨Nat.le_of_ble_eq_true rfl, Nat.le_of_ble_eq_true rfl⟩ (cwG (i := 4) (by decide)) rfl rfl rfl hl.1 rfl (Nat.le_of_ble_eq_true rfl) dX5_add_84 (fun o w' H locs hp hB => ?_)
      obtain ⟨rfl, rfl⟩ := hp
      refine W.eq (g2 := F0 m 87 ls []) rfl ?_
      refine lv_aload_n hx hb dX5_add_87 rfl (lv_at hl 1 rfl) ?_
      refine lv_aload hx hb dX5_add_88 (lv_at hl 0 rfl) ?_
      obtain ⟨x32, r33, q35, f37, hd31⟩ := ex4 (D_X5_settleChange r24 q26 f30 x5)
      replace hR := bnd4_use hd31 hR
      refine call_V (n := 1) (As := [.ref (a (6 + 2 * x5))]) (rest := []) hX hB (k_X5_settleChange κ l a r24 q26 f30 x5 (lt15 hx5) x32 r33 q35 f37 hd31) ⟨rfl, yk_X5_settleChange⟩ wm_3_97 wm_3_99 wp_20 wm_1_1 wm_3_100 ⟨Nat.le_of_ble_eq_true rfl, Nat.le_of_ble_eq_true rfl⟩ ⟨Nat.le_of_ble_eq_true rfl, Nat.le_of_ble_eq_true rfl⟩ cw0 rfl rfl rfl hl.1 rfl (Nat.le_of_ble_eq_true rfl) dX5_add_90 (fun o w' H locs hp hB => ?_)
      obtain ⟨rfl, ho34, hq36, rfl⟩ := hp
      refine W.eq (g2 := F0 m 93 ls [.int x32]) rfl ?_
      rw [← hQ]
      exact vx_ret ( end_i hX hB hA3 rfl rfl (by obtain ⟨rfl, rfl, rfl, rfl, rfl⟩ := pr5 hR; exact ⟨rfl, rfl, (fun h => ho34 ((fun h => ho25 ((fun h => h) h)) h)), (hq36.trans (hq27.trans rfl)), rfl⟩) (Nat.le_of_ble_eq_true rfl) (Nat.le_of_ble_eq_true rfl) dX5_add_93)
    refine lv_icmp_eq (tgt := 60) hx hb dX5_add_39 (by decide) (fun c38 => ?_) (fun c38 => ?_)
    · replace hR := ifp c38 hR
      refine lv_iconst (v := 0) hx hb dX5_add_60 (by decide) ?_
      exact jn61 0 _ _ (Or.inl rfl) hR hB _ hl
    · replace hR := ifn c38 hR
      refine lv_iload hx hb dX5_add_42 (lv_at hl 6 rfl) ?_
      refine lv_bipush (v := (-20)) hx hb dX5_add_44 (by decide) ?_
      refine lv_icmp_lt (tgt := 60) hx hb dX5_add_46 (by decide) (fun c39 => ?_) (fun c39 => ?_)
      · replace hR := ifp c39 hR
        refine lv_iconst (v := 0) hx hb dX5_add_60 (by decide) ?_
        exact jn61 0 _ _ (Or.inl rfl) hR hB _ hl
      · replace hR := ifn c39 hR
        refine lv_iload hx hb dX5_add_49 (lv_at hl 6 rfl) ?_
        refine lv_bipush (v := 20) hx hb dX5_add_51 (by decide) ?_
        refine lv_icmp_gt (tgt := 60) hx hb dX5_add_53 (by decide) (fun c40 => ?_) (fun c40 => ?_)
        · replace hR := ifp c40 hR
          refine lv_iconst (v := 0) hx hb dX5_add_60 (by decide) ?_
          exact jn61 0 _ _ (Or.inl rfl) hR hB _ hl
        · replace hR := ifn c40 hR
          refine lv_iconst (v := 1) hx hb dX5_add_56 (by decide) ?_
          refine lv_goto (tgt := 61) hx hb dX5_add_57 (by decide) ?_
          exact jn61 1 _ _ (Or.inr rfl) hR hB _ hl
  refine lv_if_eq (tgt := 32) hx hb dX5_add_14 (by decide) (fun c41 => ?_) (fun c41 => ?_)
  · replace hR := ifp c41 hR
    refine lv_iconst (v := 0) hx hb dX5_add_32 (by decide) ?_
    exact jn33 0 _ _ (Or.inl rfl) hR hB _ hl
  · replace hR := ifn c41 hR
    refine lv_aload hx hb dX5_add_17 (lv_at hl 0 rfl) ?_
    refine lv_iload_n hx hb dX5_add_19 rfl (lv_at hl 3 rfl) ?_
    refine lv_iload hx hb dX5_add_20 (lv_at hl 5 rfl) ?_
    obtain ⟨x43, hd42⟩ := ex1 (D_X3_hasLine r q f x5 p1 p3)
    replace hR := bnd1_use hd42 hR
    refine call_V (n := 2) (As := [.int p1, .int p3]) (rest := []) hX hB (k_X3_hasLine κ l a r q f x5 p1 p3 (lt15 hx5) x43 hd42) ⟨rfl, yk_X3_hasLine⟩ wm_3_43 wm_3_44 wm_3_45 wm_1_2 wm_3_46 ⟨Nat.le_of_ble_eq_true rfl, Nat.le_of_ble_eq_true rfl⟩ ⟨Nat.le_of_ble_eq_true rfl, Nat.le_of_ble_eq_true rfl⟩ (cwG (i := x5) (lt15 hx5)) rfl rfl rfl hl.1 rfl (Nat.le_of_ble_eq_true rfl) dX5_add_22 (fun o w' H locs hp hB => ?_)
    obtain ⟨rfl, bx43, rfl⟩ := hp
    refine W.eq (g2 := F0 m 25 ls [.int x43]) rfl ?_
    refine lv_if_eq (tgt := 32) hx hb dX5_add_25 (by decide) (fun c44 => ?_) (fun c44 => ?_)
    · replace hR := ifp c44 hR
      refine lv_iconst (v := 0) hx hb dX5_add_32 (by decide) ?_
      exact jn33 0 _ _ (Or.inl rfl) hR hB _ hl
    · replace hR := ifn c44 hR
      refine lv_iconst (v := 1) hx hb dX5_add_28 (by decide) ?_
      refine lv_goto (tgt := 33) hx hb dX5_add_29 (by decide) ?_
      exact jn33 1 _ _ (Or.inr rfl) hR hB _ hl
noncomputable def D_X5_widen_j63 (x5 : Nat) (x7 : Int32) (r10 : Nat → Int32) (q12 : Nat → Int32) (f14 : Nat → Nat → Int64) (z0_48 : Int32) (z0_63 : Int32) : String × Int32 × (Nat → Int32) × (Nat → Int32) × (Nat → Nat → Int64) := bnd3 (D_X3_reshape r10 q12 f14 x5 z0_48 z0_63) (fun (r18 : Nat → Int32) (q20 : Nat → Int32) (f22 : Nat → Nat → Int64) => bnd1 (D_X3_takeOver r18 q20 f22 x5 4) (fun (f24 : Nat → Nat → Int64) => bnd3 (D_X5_tellDone r18 q20 f24 (x7 + 1)) (fun (x26 : Int32) (q27 : Nat → Int32) (f29 : Nat → Nat → Int64) => ("", x26, r18, q27, f29))))
theorem D_X5_widen_j63_s {x5 : Nat} {x7 : Int32} {r10 : Nat → Int32} {q12 : Nat → Int32} {f14 : Nat → Nat → Int64} {z0_48 : Int32} {z0_63 : Int32} : D_X5_widen_j63 x5 x7 r10 q12 f14 z0_48 z0_63 = bnd3 (D_X3_reshape r10 q12 f14 x5 z0_48 z0_63) (fun (r18 : Nat → Int32) (q20 : Nat → Int32) (f22 : Nat → Nat → Int64) => bnd1 (D_X3_takeOver r18 q20 f22 x5 4) (fun (f24 : Nat → Nat → Int64) => bnd3 (D_X5_tellDone r18 q20 f24 (x7 + 1)) (fun (x26 : Int32) (q27 : Nat → Int32) (f29 : Nat → Nat → Int64) => ("", x26, r18, q27, f29)))) := rfl
noncomputable def D_X5_widen_j48 (p1 : Int32) (x5 : Nat) (x7 : Int32) (r10 : Nat → Int32) (q12 : Nat → Int32) (f14 : Nat → Nat → Int64) (z0_48 : Int32) : String × Int32 × (Nat → Int32) × (Nat → Int32) × (Nat → Nat → Int64) := (if p1 = 0 then (D_X5_widen_j63 x5 x7 r10 q12 f14 z0_48 (r10 (2 * x5 + 1))) else (D_X5_widen_j63 x5 x7 r10 q12 f14 z0_48 (x7 + 1)))
theorem D_X5_widen_j48_s {p1 : Int32} {x5 : Nat} {x7 : Int32} {r10 : Nat → Int32} {q12 : Nat → Int32} {f14 : Nat → Nat → Int64} {z0_48 : Int32} : D_X5_widen_j48 p1 x5 x7 r10 q12 f14 z0_48 = (if p1 = 0 then (D_X5_widen_j63 x5 x7 r10 q12 f14 z0_48 (r10 (2 * x5 + 1))) else (D_X5_widen_j63 x5 x7 r10 q12 f14 z0_48 (x7 + 1))) := rfl
noncomputable def D_X5_widen (r : Nat → Int32) (q : Nat → Int32) (f : Nat → Nat → Int64) (p0 : Int32) (p1 : Int32) : String × Int32 × (Nat → Int32) × (Nat → Int32) × (Nat → Nat → Int64) := bnd2 (D_X5_needTable r q f p0) (fun (E2 : String) (x5 : Nat) => (if E2 = "" then bnd1 (D_X3_countLines r q f x5 p1) (fun (x7 : Int32) => (if x7 < 4 then bnd3 (D_X3_becomeLike r q f 4 x5) (fun (r10 : Nat → Int32) (q12 : Nat → Int32) (f14 : Nat → Nat → Int64) => (if p1 = 0 then (D_X5_widen_j48 p1 x5 x7 r10 q12 f14 (x7 + 1)) else (D_X5_widen_j48 p1 x5 x7 r10 q12 f14 (r10 (2 * x5))))) else bnd3 (D_X5_tellRefused r q f) (fun (x33 : Int32) (q34 : Nat → Int32) (f36 : Nat → Nat → Int64) => ("", x33, r, q34, f36)))) else (E2, 0, r, q, f)))
theorem D_X5_widen_s {r : Nat → Int32} {q : Nat → Int32} {f : Nat → Nat → Int64} {p0 : Int32} {p1 : Int32} : D_X5_widen r q f p0 p1 = bnd2 (D_X5_needTable r q f p0) (fun (E2 : String) (x5 : Nat) => (if E2 = "" then bnd1 (D_X3_countLines r q f x5 p1) (fun (x7 : Int32) => (if x7 < 4 then bnd3 (D_X3_becomeLike r q f 4 x5) (fun (r10 : Nat → Int32) (q12 : Nat → Int32) (f14 : Nat → Nat → Int64) => (if p1 = 0 then (D_X5_widen_j48 p1 x5 x7 r10 q12 f14 (x7 + 1)) else (D_X5_widen_j48 p1 x5 x7 r10 q12 f14 (r10 (2 * x5))))) else bnd3 (D_X5_tellRefused r q f) (fun (x33 : Int32) (q34 : Nat → Int32) (f36 : Nat → Nat → Int64) => ("", x33, r, q34, f36)))) else (E2, 0, r, q, f))) := rfl
set_option maxHeartbeats 4000000 in
set_option maxRecDepth 100000 in
theorem k_X5_widen (κ : Kt) (l : Launch) (hst : l.stackTraces = false) (a : Nat → Nat) (r q : Nat → Int32) (f : Nat → Nat → Int64) (p0 : Int32) (p1 : Int32)  (o_E : String) (o_x : Int32) (o_r : Nat → Int32) (o_q : Nat → Int32) (o_f : Nat → Nat → Int64) (hR : D_X5_widen r q f p0 p1 = (o_E, o_x, o_r, o_q, o_f)) : CX κ l yX5_widen cX5_widen 5 (some .int) 7 111 1 6 [.ref (a 0), .int p0, .int p1] (cw κ a r q f) (fun o w' => o_E = "" ∧ o = some (.int o_x) ∧ (okr r → okr o_r) ∧ o_q 4 = q 4 ∧ w' = cw κ a o_r o_q o_f) (fun E w' => o_E = E ∧ o_E ∈ (["java/lang/IndexOutOfBoundsException"] : List String) ∧ (okr r → okr o_r) ∧ o_q 4 = q 4 ∧ w' = cw κ a o_r o_q o_f) := by
  refine CX_begin (by decide) (Nat.le_of_ble_eq_true rfl) ?_
  intro p e s m args below meth c A Q hX hne hA3 hQ hB ls hl
  have hx := hX.1.1
  have hb := hX.1.2.1
  have hl : lv_has ls 5 [(0, .ref (a 0)), (1, .int p0), (2, .int p1)] := hl
  replace hR := (D_X5_widen_s).symm.trans hR
  refine lv_aload_n hx hb dX5_widen_0 rfl (lv_at hl 0 rfl) ?_
  refine lv_iload_n hx hb dX5_widen_1 rfl (lv_at hl 1 rfl) ?_
  obtain ⟨E2, x5, hd1⟩ := ex2 (D_X5_needTable r q f p0)
  replace hR := bnd2_use hd1 hR
  refine CX_after2 hX hB (run_XV (n := 1) (As := [.int p0]) (rest := []) hX hB (k_X5_needTable κ l hst a r q f p0 E2 x5 hd1) ⟨rfl, yk_X5_needTable⟩ wm_2_165 wm_2_167 wp_17 wm_1_1 wm_2_168 ⟨Nat.le_of_ble_eq_true rfl, Nat.le_of_ble_eq_true rfl⟩ ⟨Nat.le_of_ble_eq_true rfl, Nat.le_of_ble_eq_true rfl⟩ cw0 rfl rfl rfl hl.1 rfl (Nat.le_of_ble_eq_true rfl) dX5_widen_2) (fun E ce q9 w' H locs hp hB hce hcv hcl => ?_) (fun o w' H locs hp hB => ?_)
  · obtain ⟨he3, hE4, rfl⟩ := hp
    replace hR := ifn (ne_mt hE4 (by decide)) hR
    rw [← hQ]
    exact thrown_on hX hne hB hA3 hce hcv hcl (by obtain ⟨rfl, rfl, rfl, rfl, rfl⟩ := pr5 hR; exact ⟨he3, ((by decide : ∀ x ∈ (["java/lang/IndexOutOfBoundsException"] : List String), x ∈ (["java/lang/IndexOutOfBoundsException"] : List String)) _ hE4), (fun h => h), rfl, rfl⟩) (Nat.le_of_ble_eq_true rfl) (Nat.le_of_ble_eq_true rfl)
  obtain ⟨he3, hx5, rfl, rfl⟩ := hp
  replace hR := ifp he3 hR
  refine W.eq (g2 := F0 m 5 ls [.ref (a (6 + 2 * x5))]) rfl ?_
  refine lv_astore_n (lv' := [(3, .ref (a (6 + 2 * x5))), (0, .ref (a 0)), (1, .int p0), (2, .int p1)]) hx hb dX5_widen_5 rfl hl (by decide) rfl (fun ls hl => ?_)
  refine lv_aload_n hx hb dX5_widen_6 rfl (lv_at hl 0 rfl) ?_
  refine lv_iload_n hx hb dX5_widen_7 rfl (lv_at hl 3 rfl) ?_
  obtain ⟨x7, hd6⟩ := ex1 (D_X3_countLines r q f x5 p1)
  replace hR := bnd1_use hd6 hR
  refine call_V (n := 1) (As := [.int p1]) (rest := []) hX hB (k_X3_countLines κ l a r q f x5 p1 (lt15 hx5) x7 hd6) ⟨rfl, yk_X3_countLines⟩ wm_3_131 wm_3_132 wm_3_133 wm_1_2 wm_3_134 ⟨Nat.le_of_ble_eq_true rfl, Nat.le_of_ble_eq_true rfl⟩ ⟨Nat.le_of_ble_eq_true rfl, Nat.le_of_ble_eq_true rfl⟩ (cwG (i := x5) (lt15 hx5)) rfl rfl rfl hl.1 rfl (Nat.le_of_ble_eq_true rfl) dX5_widen_8 (fun o w' H locs hp hB => ?_)
  obtain ⟨rfl, rfl⟩ := hp
  refine W.eq (g2 := F0 m 11 ls [.int x7]) rfl ?_
  refine lv_istore (lv' := [(4, .int x7), (3, .ref (a (6 + 2 * x5))), (0, .ref (a 0)), (1, .int p0), (2, .int p1)]) hx hb dX5_widen_11 hl (by decide) rfl (fun ls hl => ?_)
  refine lv_iload hx hb dX5_widen_13 (lv_at hl 0 rfl) ?_
  refine lv_iconst (v := 4) hx hb dX5_widen_15 (by decide) ?_
  refine lv_icmp_lt (tgt := 24) hx hb dX5_widen_16 (by decide) (fun c8 => ?_) (fun c8 => ?_)
  · replace hR := ifp c8 hR
    refine lv_aload_n hx hb dX5_widen_24 rfl (lv_at hl 2 rfl) ?_
    refine gf hX hB cw0 rfl in5 1 (by decide) wm_1_138 rfl rfl dX5_widen_25 ?_
    refine lv_aload_n hx hb dX5_widen_28 rfl (lv_at hl 1 rfl) ?_
    obtain ⟨r10, q12, f14, hd9⟩ := ex3 (D_X3_becomeLike r q f 4 x5)
    replace hR := bnd3_use hd9 hR
    refine call_V (n := 1) (As := [.ref (a (6 + 2 * x5))]) (rest := []) hX hB (k_X3_becomeLike κ l a r q f 4 x5 (by decide) (lt15 hx5) r10 q12 f14 hd9) ⟨rfl, yk_X3_becomeLike⟩ wm_3_74 wm_1_205 wm_1_206 wm_1_2 wm_1_207 ⟨Nat.le_of_ble_eq_true rfl, Nat.le_of_ble_eq_true rfl⟩ ⟨Nat.le_of_ble_eq_true rfl, Nat.le_of_ble_eq_true rfl⟩ (cwG (i := 4) (by decide)) rfl rfl rfl hl.1 rfl (Nat.le_of_ble_eq_true rfl) dX5_widen_29 (fun o w' H locs hp hB => ?_)
    obtain ⟨rfl, ho11, hq13, rfl⟩ := hp
    refine W.eq (g2 := F0 m 32 ls []) rfl ?_
    refine lv_aload_n hx hb dX5_widen_32 rfl (lv_at hl 1 rfl) ?_
    refine lv_iload_n hx hb dX5_widen_33 rfl (lv_at hl 4 rfl) ?_
    have jn48 : ∀ (z0_48 : Int32) (H : Heap) (locs : List Loc), D_X5_widen_j48 p1 x5 x7 r10 q12 f14 z0_48 = (o_E, o_x, o_r, o_q, o_f) → Bd κ A s (cw κ a r10 q12 f14) H locs → ∀ ls : Array Slot, lv_has ls 5 [(4, .int x7), (3, .ref (a (6 + 2 * x5))), (0, .ref (a 0)), (1, .int p0), (2, .int p1)] → W p l e (Rm 7 111 1 6) s m args below meth c H locs 1 6 Q (F0 m 48 ls [.int z0_48, .ref (a (6 + 2 * x5))]) := by
      intro z0_48 H locs hR hB ls hl
      replace hR := (D_X5_widen_j48_s).symm.trans hR
      refine lv_iload_n hx hb dX5_widen_48 rfl (lv_at hl 4 rfl) ?_
      have jn63 : ∀ (z0_63 : Int32) (H : Heap) (locs : List Loc), D_X5_widen_j63 x5 x7 r10 q12 f14 z0_48 z0_63 = (o_E, o_x, o_r, o_q, o_f) → Bd κ A s (cw κ a r10 q12 f14) H locs → ∀ ls : Array Slot, lv_has ls 5 [(4, .int x7), (3, .ref (a (6 + 2 * x5))), (0, .ref (a 0)), (1, .int p0), (2, .int p1)] → W p l e (Rm 7 111 1 6) s m args below meth c H locs 1 6 Q (F0 m 63 ls [.int z0_63, .int z0_48, .ref (a (6 + 2 * x5))]) := by
        intro z0_63 H locs hR hB ls hl
        replace hR := (D_X5_widen_j63_s).symm.trans hR
        obtain ⟨r18, q20, f22, hd17⟩ := ex3 (D_X3_reshape r10 q12 f14 x5 z0_48 z0_63)
        replace hR := bnd3_use hd17 hR
        refine call_V (n := 2) (As := [.int z0_48, .int z0_63]) (rest := []) hX hB (k_X3_reshape κ l a r10 q12 f14 x5 z0_48 z0_63 (lt15 hx5) r18 q20 f22 hd17) ⟨rfl, yk_X3_reshape⟩ wm_3_23 wm_1_213 wm_1_214 wm_1_2 wm_1_215 ⟨Nat.le_of_ble_eq_true rfl, Nat.le_of_ble_eq_true rfl⟩ ⟨Nat.le_of_ble_eq_true rfl, Nat.le_of_ble_eq_true rfl⟩ (cwG (i := x5) (lt15 hx5)) rfl rfl rfl hl.1 rfl (Nat.le_of_ble_eq_true rfl) dX5_widen_63 (fun o w' H locs hp hB => ?_)
        obtain ⟨rfl, ho19, hq21, rfl⟩ := hp
        refine W.eq (g2 := F0 m 66 ls []) rfl ?_
        refine lv_aload_n hx hb dX5_widen_66 rfl (lv_at hl 1 rfl) ?_
        refine lv_aload_n hx hb dX5_widen_67 rfl (lv_at hl 2 rfl) ?_
        refine gf hX hB cw0 rfl in5 1 (by decide) wm_1_138 rfl rfl dX5_widen_68 ?_
        obtain ⟨f24, hd23⟩ := ex1 (D_X3_takeOver r18 q20 f22 x5 4)
        replace hR := bnd1_use hd23 hR
        refine call_V (n := 1) (As := [.ref (a 14)]) (rest := []) hX hB (k_X3_takeOver κ l a r18 q20 f22 x5 4 (lt15 hx5) (by decide) f24 hd23) ⟨rfl, yk_X3_takeOver⟩ wm_3_135 wm_3_136 wm_3_137 wm_1_2 wm_3_138 ⟨Nat.le_of_ble_eq_true rfl, Nat.le_of_ble_eq_true rfl⟩ ⟨Nat.le_of_ble_eq_true rfl, Nat.le_of_ble_eq_true rfl⟩ (cwG (i := x5) (lt15 hx5)) rfl rfl rfl hl.1 rfl (Nat.le_of_ble_eq_true rfl) dX5_widen_71 (fun o w' H locs hp hB => ?_)
        obtain ⟨rfl, rfl⟩ := hp
        refine W.eq (g2 := F0 m 74 ls []) rfl ?_
        refine lv_aload_n hx hb dX5_widen_74 rfl (lv_at hl 2 rfl) ?_
        refine lv_iload hx hb dX5_widen_75 (lv_at hl 0 rfl) ?_
        refine lv_iconst (v := 1) hx hb dX5_widen_77 (by decide) ?_
        refine lv_iadd hx hb dX5_widen_78 ?_
        obtain ⟨x26, q27, f29, hd25⟩ := ex3 (D_X5_tellDone r18 q20 f24 (x7 + 1))
        replace hR := bnd3_use hd25 hR
        refine call_V (n := 1) (As := [.int (x7 + 1)]) (rest := []) hX hB (k_X5_tellDone κ l a r18 q20 f24 (x7 + 1) x26 q27 f29 hd25) ⟨rfl, yk_X5_tellDone⟩ wm_3_24 wm_3_26 wp_19 wm_1_1 wm_3_27 ⟨Nat.le_of_ble_eq_true rfl, Nat.le_of_ble_eq_true rfl⟩ ⟨Nat.le_of_ble_eq_true rfl, Nat.le_of_ble_eq_true rfl⟩ cw0 rfl rfl rfl hl.1 rfl (Nat.le_of_ble_eq_true rfl) dX5_widen_79 (fun o w' H locs hp hB => ?_)
        obtain ⟨rfl, hq28, rfl⟩ := hp
        refine W.eq (g2 := F0 m 82 ls [.int x26]) rfl ?_
        rw [← hQ]
        exact vx_ret ( end_i hX hB hA3 rfl rfl (by obtain ⟨rfl, rfl, rfl, rfl, rfl⟩ := pr5 hR; exact ⟨rfl, rfl, (fun h => ho19 ((fun h => ho11 ((fun h => h) h)) h)), (hq28.trans (hq21.trans (hq13.trans rfl))), rfl⟩) (Nat.le_of_ble_eq_true rfl) (Nat.le_of_ble_eq_true rfl) dX5_widen_82)
      refine lv_if_eq (tgt := 59) hx hb dX5_widen_49 (by decide) (fun c30 => ?_) (fun c30 => ?_)
      · replace hR := ifp c30 hR
        refine lv_aload_n hx hb dX5_widen_59 rfl (lv_at hl 1 rfl) ?_
        refine gfN hX hB (cwG (i := x5) (lt15 hx5)) rfl in3 2 (by decide) wn_1_57 rfl rfl dX5_widen_60 ?_
        exact jn63 (r10 (2 * x5 + 1)) _ _  hR hB _ hl
      · replace hR := ifn c30 hR
        refine lv_iload hx hb dX5_widen_52 (lv_at hl 0 rfl) ?_
        refine lv_iconst (v := 1) hx hb dX5_widen_54 (by decide) ?_
        refine lv_iadd hx hb dX5_widen_55 ?_
        refine lv_goto (tgt := 63) hx hb dX5_widen_56 (by decide) ?_
        exact jn63 (x7 + 1) _ _  hR hB _ hl
    refine lv_if_eq (tgt := 44) hx hb dX5_widen_34 (by decide) (fun c31 => ?_) (fun c31 => ?_)
    · replace hR := ifp c31 hR
      refine lv_iload hx hb dX5_widen_44 (lv_at hl 0 rfl) ?_
      refine lv_iconst (v := 1) hx hb dX5_widen_46 (by decide) ?_
      refine lv_iadd hx hb dX5_widen_47 ?_
      exact jn48 (x7 + 1) _ _  hR hB _ hl
    · replace hR := ifn c31 hR
      refine lv_aload_n hx hb dX5_widen_37 rfl (lv_at hl 1 rfl) ?_
      refine gfN hX hB (cwG (i := x5) (lt15 hx5)) rfl in3 1 (by decide) wn_1_51 rfl rfl dX5_widen_38 ?_
      refine lv_goto (tgt := 48) hx hb dX5_widen_41 (by decide) ?_
      exact jn48 (r10 (2 * x5)) _ _  hR hB _ hl
  · replace hR := ifn c8 hR
    refine lv_aload_n hx hb dX5_widen_19 rfl (lv_at hl 2 rfl) ?_
    obtain ⟨x33, q34, f36, hd32⟩ := ex3 (D_X5_tellRefused r q f)
    replace hR := bnd3_use hd32 hR
    refine call_V (n := 0) (As := []) (rest := []) hX hB (k_X5_tellRefused κ l a r q f x33 q34 f36 hd32) ⟨rfl, yk_X5_tellRefused⟩ wm_3_103 wm_3_105 wp_21 wm_1_1 wm_3_106 ⟨Nat.le_of_ble_eq_true rfl, Nat.le_of_ble_eq_true rfl⟩ ⟨Nat.le_of_ble_eq_true rfl, Nat.le_of_ble_eq_true rfl⟩ cw0 rfl rfl rfl hl.1 rfl (Nat.le_of_ble_eq_true rfl) dX5_widen_20 (fun o w' H locs hp hB => ?_)
    obtain ⟨rfl, hq35, rfl⟩ := hp
    refine W.eq (g2 := F0 m 23 ls [.int x33]) rfl ?_
    rw [← hQ]
    exact vx_ret ( end_i hX hB hA3 rfl rfl (by obtain ⟨rfl, rfl, rfl, rfl, rfl⟩ := pr5 hR; exact ⟨rfl, rfl, (fun h => h), (hq35.trans rfl), rfl⟩) (Nat.le_of_ble_eq_true rfl) (Nat.le_of_ble_eq_true rfl) dX5_widen_23)
noncomputable def D_X5_drop_j111 (x5 : Nat) (x13 : Int32) (r16 : Nat → Int32) (q18 : Nat → Int32) (f_48 : Nat → Nat → Int64) (z0_95 : Int32) (z0_111 : Int32) : String × Int32 × (Nat → Int32) × (Nat → Int32) × (Nat → Nat → Int64) := bnd3 (D_X3_reshape r16 q18 f_48 x5 z0_95 z0_111) (fun (r74 : Nat → Int32) (q76 : Nat → Int32) (f78 : Nat → Nat → Int64) => bnd1 (D_X3_takeOver r74 q76 f78 x5 4) (fun (f80 : Nat → Nat → Int64) => bnd3 (D_X5_tellDone r74 q76 f80 (x13 - 1)) (fun (x82 : Int32) (q83 : Nat → Int32) (f85 : Nat → Nat → Int64) => ("", x82, r74, q83, f85))))
theorem D_X5_drop_j111_s {x5 : Nat} {x13 : Int32} {r16 : Nat → Int32} {q18 : Nat → Int32} {f_48 : Nat → Nat → Int64} {z0_95 : Int32} {z0_111 : Int32} : D_X5_drop_j111 x5 x13 r16 q18 f_48 z0_95 z0_111 = bnd3 (D_X3_reshape r16 q18 f_48 x5 z0_95 z0_111) (fun (r74 : Nat → Int32) (q76 : Nat → Int32) (f78 : Nat → Nat → Int64) => bnd1 (D_X3_takeOver r74 q76 f78 x5 4) (fun (f80 : Nat → Nat → Int64) => bnd3 (D_X5_tellDone r74 q76 f80 (x13 - 1)) (fun (x82 : Int32) (q83 : Nat → Int32) (f85 : Nat → Nat → Int64) => ("", x82, r74, q83, f85)))) := rfl
noncomputable def D_X5_drop_j95 (p1 : Int32) (x5 : Nat) (x13 : Int32) (r16 : Nat → Int32) (q18 : Nat → Int32) (f_48 : Nat → Nat → Int64) (z0_95 : Int32) : String × Int32 × (Nat → Int32) × (Nat → Int32) × (Nat → Nat → Int64) := (if p1 = 0 then (D_X5_drop_j111 x5 x13 r16 q18 f_48 z0_95 (r16 (2 * x5 + 1))) else (D_X5_drop_j111 x5 x13 r16 q18 f_48 z0_95 (x13 - 1)))
theorem D_X5_drop_j95_s {p1 : Int32} {x5 : Nat} {x13 : Int32} {r16 : Nat → Int32} {q18 : Nat → Int32} {f_48 : Nat → Nat → Int64} {z0_95 : Int32} : D_X5_drop_j95 p1 x5 x13 r16 q18 f_48 z0_95 = (if p1 = 0 then (D_X5_drop_j111 x5 x13 r16 q18 f_48 z0_95 (r16 (2 * x5 + 1))) else (D_X5_drop_j111 x5 x13 r16 q18 f_48 z0_95 (x13 - 1))) := rfl
noncomputable def D_X5_drop_48 (p1 : Int32) (x5 : Nat) (x13 : Int32) (r16 : Nat → Int32) (q18 : Nat → Int32) (nn : Nat) : Int32 → (Nat → Nat → Int64) → String × Int32 × (Nat → Int32) × (Nat → Int32) × (Nat → Nat → Int64) := @Nat.rec (fun _ => Int32 → (Nat → Nat → Int64) → String × Int32 × (Nat → Int32) × (Nat → Int32) × (Nat → Nat → Int64)) (fun _ _ => default) (fun _ lb48 (y6_48 : Int32) (f_48 : Nat → Nat → Int64) => (if (x13 - 1) ≤ y6_48 then (if p1 = 0 then (D_X5_drop_j95 p1 x5 x13 r16 q18 f_48 (x13 - 1)) else (D_X5_drop_j95 p1 x5 x13 r16 q18 f_48 (r16 (2 * x5)))) else bnd1 (D_X3_exchangeLines r16 q18 f_48 4 p1 y6_48 (y6_48 + 1)) (fun (f89 : Nat → Nat → Int64) => (lb48 (y6_48 + 1) f89)))) nn
theorem D_X5_drop_48_s {p1 : Int32} {x5 : Nat} {x13 : Int32} {r16 : Nat → Int32} {q18 : Nat → Int32} {nn : Nat} {y6_48 : Int32} {f_48 : Nat → Nat → Int64} : D_X5_drop_48 p1 x5 x13 r16 q18 (nn + 1) y6_48 f_48 = (if (x13 - 1) ≤ y6_48 then (if p1 = 0 then (D_X5_drop_j95 p1 x5 x13 r16 q18 f_48 (x13 - 1)) else (D_X5_drop_j95 p1 x5 x13 r16 q18 f_48 (r16 (2 * x5)))) else bnd1 (D_X3_exchangeLines r16 q18 f_48 4 p1 y6_48 (y6_48 + 1)) (fun (f89 : Nat → Nat → Int64) => ((D_X5_drop_48 p1 x5 x13 r16 q18 nn) (y6_48 + 1) f89))) := rfl
noncomputable def D_X5_drop (r : Nat → Int32) (q : Nat → Int32) (f : Nat → Nat → Int64) (p0 : Int32) (p1 : Int32) (p2 : Int32) : String × Int32 × (Nat → Int32) × (Nat → Int32) × (Nat → Nat → Int64) := bnd2 (D_X5_needTable r q f p0) (fun (E2 : String) (x5 : Nat) => (if E2 = "" then bnd1 (D_X3_hasLine r q f x5 p1 p2) (fun (x7 : Int32) => bnd1 (D_X5_needIndex r q f x7) (fun (E9 : String) => (if E9 = "" then bnd1 (D_X3_countLines r q f x5 p1) (fun (x13 : Int32) => (if 1 < x13 then bnd3 (D_X3_becomeLike r q f 4 x5) (fun (r16 : Nat → Int32) (q18 : Nat → Int32) (f20 : Nat → Nat → Int64) => (D_X5_drop_48 p1 x5 x13 r16 q18 (gap (x13 - 1) p2 + 1) p2 f20)) else bnd3 (D_X5_tellRefused r q f) (fun (x91 : Int32) (q92 : Nat → Int32) (f94 : Nat → Nat → Int64) => ("", x91, r, q92, f94)))) else (E9, 0, r, q, f)))) else (E2, 0, r, q, f)))
theorem D_X5_drop_s {r : Nat → Int32} {q : Nat → Int32} {f : Nat → Nat → Int64} {p0 : Int32} {p1 : Int32} {p2 : Int32} : D_X5_drop r q f p0 p1 p2 = bnd2 (D_X5_needTable r q f p0) (fun (E2 : String) (x5 : Nat) => (if E2 = "" then bnd1 (D_X3_hasLine r q f x5 p1 p2) (fun (x7 : Int32) => bnd1 (D_X5_needIndex r q f x7) (fun (E9 : String) => (if E9 = "" then bnd1 (D_X3_countLines r q f x5 p1) (fun (x13 : Int32) => (if 1 < x13 then bnd3 (D_X3_becomeLike r q f 4 x5) (fun (r16 : Nat → Int32) (q18 : Nat → Int32) (f20 : Nat → Nat → Int64) => (D_X5_drop_48 p1 x5 x13 r16 q18 (gap (x13 - 1) p2 + 1) p2 f20)) else bnd3 (D_X5_tellRefused r q f) (fun (x91 : Int32) (q92 : Nat → Int32) (f94 : Nat → Nat → Int64) => ("", x91, r, q92, f94)))) else (E9, 0, r, q, f)))) else (E2, 0, r, q, f))) := rfl
set_option maxHeartbeats 4000000 in
set_option maxRecDepth 100000 in
theorem k_X5_drop (κ : Kt) (l : Launch) (hst : l.stackTraces = false) (a : Nat → Nat) (r q : Nat → Int32) (f : Nat → Nat → Int64) (p0 : Int32) (p1 : Int32) (p2 : Int32)  (o_E : String) (o_x : Int32) (o_r : Nat → Int32) (o_q : Nat → Int32) (o_f : Nat → Nat → Int64) (hR : D_X5_drop r q f p0 p1 p2 = (o_E, o_x, o_r, o_q, o_f)) : CX κ l yX5_drop cX5_drop 7 (some .int) 7 111 2 12 [.ref (a 0), .int p0, .int p1, .int p2] (cw κ a r q f) (fun o w' => o_E = "" ∧ o = some (.int o_x) ∧ (okr r → okr o_r) ∧ o_q 4 = q 4 ∧ w' = cw κ a o_r o_q o_f) (fun E w' => o_E = E ∧ o_E ∈ (["java/lang/IndexOutOfBoundsException"] : List String) ∧ (okr r → okr o_r) ∧ o_q 4 = q 4 ∧ w' = cw κ a o_r o_q o_f) := by
  refine CX_begin (by decide) (Nat.le_of_ble_eq_true rfl) ?_
  intro p e s m args below meth c A Q hX hne hA3 hQ hB ls hl
  have hx := hX.1.1
  have hb := hX.1.2.1
  have hl : lv_has ls 7 [(0, .ref (a 0)), (1, .int p0), (2, .int p1), (3, .int p2)] := hl
  replace hR := (D_X5_drop_s).symm.trans hR
  refine lv_aload_n hx hb dX5_drop_0 rfl (lv_at hl 0 rfl) ?_
  refine lv_iload_n hx hb dX5_drop_1 rfl (lv_at hl 1 rfl) ?_
  obtain ⟨E2, x5, hd1⟩ := ex2 (D_X5_needTable r q f p0)
  replace hR := bnd2_use hd1 hR
  refine CX_after2 hX hB (run_XV (n := 1) (As := [.int p0]) (rest := []) hX hB (k_X5_needTable κ l hst a r q f p0 E2 x5 hd1) ⟨rfl, yk_X5_needTable⟩ wm_2_165 wm_2_167 wp_17 wm_1_1 wm_2_168 ⟨Nat.le_of_ble_eq_true rfl, Nat.le_of_ble_eq_true rfl⟩ ⟨Nat.le_of_ble_eq_true rfl, Nat.le_of_ble_eq_true rfl⟩ cw0 rfl rfl rfl hl.1 rfl (Nat.le_of_ble_eq_true rfl) dX5_drop_2) (fun E ce q9 w' H locs hp hB hce hcv hcl => ?_) (fun o w' H locs hp hB => ?_)
  · obtain ⟨he3, hE4, rfl⟩ := hp
    replace hR := ifn (ne_mt hE4 (by decide)) hR
    rw [← hQ]
    exact thrown_on hX hne hB hA3 hce hcv hcl (by obtain ⟨rfl, rfl, rfl, rfl, rfl⟩ := pr5 hR; exact ⟨he3, ((by decide : ∀ x ∈ (["java/lang/IndexOutOfBoundsException"] : List String), x ∈ (["java/lang/IndexOutOfBoundsException"] : List String)) _ hE4), (fun h => h), rfl, rfl⟩) (Nat.le_of_ble_eq_true rfl) (Nat.le_of_ble_eq_true rfl)
  obtain ⟨he3, hx5, rfl, rfl⟩ := hp
  replace hR := ifp he3 hR
  refine W.eq (g2 := F0 m 5 ls [.ref (a (6 + 2 * x5))]) rfl ?_
  refine lv_astore (lv' := [(4, .ref (a (6 + 2 * x5))), (0, .ref (a 0)), (1, .int p0), (2, .int p1), (3, .int p2)]) hx hb dX5_drop_5 hl (by decide) rfl (fun ls hl => ?_)
  refine lv_aload hx hb dX5_drop_7 (lv_at hl 0 rfl) ?_
  refine lv_iload_n hx hb dX5_drop_9 rfl (lv_at hl 3 rfl) ?_
  refine lv_iload_n hx hb dX5_drop_10 rfl (lv_at hl 4 rfl) ?_
  obtain ⟨x7, hd6⟩ := ex1 (D_X3_hasLine r q f x5 p1 p2)
  replace hR := bnd1_use hd6 hR
  refine call_V (n := 2) (As := [.int p1, .int p2]) (rest := []) hX hB (k_X3_hasLine κ l a r q f x5 p1 p2 (lt15 hx5) x7 hd6) ⟨rfl, yk_X3_hasLine⟩ wm_3_43 wm_3_44 wm_3_45 wm_1_2 wm_3_46 ⟨Nat.le_of_ble_eq_true rfl, Nat.le_of_ble_eq_true rfl⟩ ⟨Nat.le_of_ble_eq_true rfl, Nat.le_of_ble_eq_true rfl⟩ (cwG (i := x5) (lt15 hx5)) rfl rfl rfl hl.1 rfl (Nat.le_of_ble_eq_true rfl) dX5_drop_11 (fun o w' H locs hp hB => ?_)
  obtain ⟨rfl, bx7, rfl⟩ := hp
  refine W.eq (g2 := F0 m 14 ls [.int x7]) rfl ?_
  obtain ⟨E9, hd8⟩ := ex1 (D_X5_needIndex r q f x7)
  replace hR := bnd1_use hd8 hR
  refine CX_after2 hX hB (run_XS (n := 1) (As := [.int x7]) (rest := []) hX hB (k_X5_needIndex κ l hst a r q f x7 E9 hd8) yk_X5_needIndex wm_3_47 wm_3_48 wm_1_1 wm_3_49 ⟨Nat.le_of_ble_eq_true rfl, Nat.le_of_ble_eq_true rfl⟩ ⟨Nat.le_of_ble_eq_true rfl, Nat.le_of_ble_eq_true rfl⟩ rfl hl.1 rfl (Nat.le_of_ble_eq_true rfl) dX5_drop_14) (fun E ce q9 w' H locs hp hB hce hcv hcl => ?_) (fun o w' H locs hp hB => ?_)
  · obtain ⟨he10, hE11, rfl⟩ := hp
    replace hR := ifn (ne_mt hE11 (by decide)) hR
    rw [← hQ]
    exact thrown_on hX hne hB hA3 hce hcv hcl (by obtain ⟨rfl, rfl, rfl, rfl, rfl⟩ := pr5 hR; exact ⟨he10, ((by decide : ∀ x ∈ (["java/lang/IndexOutOfBoundsException"] : List String), x ∈ (["java/lang/IndexOutOfBoundsException"] : List String)) _ hE11), (fun h => h), rfl, rfl⟩) (Nat.le_of_ble_eq_true rfl) (Nat.le_of_ble_eq_true rfl)
  obtain ⟨he10, rfl, rfl⟩ := hp
  replace hR := ifp he10 hR
  refine W.eq (g2 := F0 m 17 ls []) rfl ?_
  refine lv_aload hx hb dX5_drop_17 (lv_at hl 0 rfl) ?_
  refine lv_iload_n hx hb dX5_drop_19 rfl (lv_at hl 3 rfl) ?_
  obtain ⟨x13, hd12⟩ := ex1 (D_X3_countLines r q f x5 p1)
  replace hR := bnd1_use hd12 hR
  refine call_V (n := 1) (As := [.int p1]) (rest := []) hX hB (k_X3_countLines κ l a r q f x5 p1 (lt15 hx5) x13 hd12) ⟨rfl, yk_X3_countLines⟩ wm_3_131 wm_3_132 wm_3_133 wm_1_2 wm_3_134 ⟨Nat.le_of_ble_eq_true rfl, Nat.le_of_ble_eq_true rfl⟩ ⟨Nat.le_of_ble_eq_true rfl, Nat.le_of_ble_eq_true rfl⟩ (cwG (i := x5) (lt15 hx5)) rfl rfl rfl hl.1 rfl (Nat.le_of_ble_eq_true rfl) dX5_drop_20 (fun o w' H locs hp hB => ?_)
  obtain ⟨rfl, rfl⟩ := hp
  refine W.eq (g2 := F0 m 23 ls [.int x13]) rfl ?_
  refine lv_istore (lv' := [(5, .int x13), (4, .ref (a (6 + 2 * x5))), (0, .ref (a 0)), (1, .int p0), (2, .int p1), (3, .int p2)]) hx hb dX5_drop_23 hl (by decide) rfl (fun ls hl => ?_)
  refine lv_iload hx hb dX5_drop_25 (lv_at hl 0 rfl) ?_
  refine lv_iconst (v := 1) hx hb dX5_drop_27 (by decide) ?_
  refine lv_icmp_gt (tgt := 36) hx hb dX5_drop_28 (by decide) (fun c14 => ?_) (fun c14 => ?_)
  · replace hR := ifp c14 hR
    refine lv_aload_n hx hb dX5_drop_36 rfl (lv_at hl 2 rfl) ?_
    refine gf hX hB cw0 rfl in5 1 (by decide) wm_1_138 rfl rfl dX5_drop_37 ?_
    refine lv_aload hx hb dX5_drop_40 (lv_at hl 1 rfl) ?_
    obtain ⟨r16, q18, f20, hd15⟩ := ex3 (D_X3_becomeLike r q f 4 x5)
    replace hR := bnd3_use hd15 hR
    refine call_V (n := 1) (As := [.ref (a (6 + 2 * x5))]) (rest := []) hX hB (k_X3_becomeLike κ l a r q f 4 x5 (by decide) (lt15 hx5) r16 q18 f20 hd15) ⟨rfl, yk_X3_becomeLike⟩ wm_3_74 wm_1_205 wm_1_206 wm_1_2 wm_1_207 ⟨Nat.le_of_ble_eq_true rfl, Nat.le_of_ble_eq_true rfl⟩ ⟨Nat.le_of_ble_eq_true rfl, Nat.le_of_ble_eq_true rfl⟩ (cwG (i := 4) (by decide)) rfl rfl rfl hl.1 rfl (Nat.le_of_ble_eq_true rfl) dX5_drop_42 (fun o w' H locs hp hB => ?_)
    obtain ⟨rfl, ho17, hq19, rfl⟩ := hp
    refine W.eq (g2 := F0 m 45 ls []) rfl ?_
    refine lv_iload_n hx hb dX5_drop_45 rfl (lv_at hl 5 rfl) ?_
    refine lv_istore (lv' := [(6, .int p2), (5, .int x13), (4, .ref (a (6 + 2 * x5))), (0, .ref (a 0)), (1, .int p0), (2, .int p1), (3, .int p2)]) hx hb dX5_drop_46 hl (by decide) rfl (fun ls hl => ?_)
    have lp48 : ∀ (nn48 : Nat) (y6_48 : Int32) (f_48 : Nat → Nat → Int64) (H : Heap) (locs : List Loc), gap (x13 - 1) y6_48 < nn48 → D_X5_drop_48 p1 x5 x13 r16 q18 nn48 y6_48 f_48 = (o_E, o_x, o_r, o_q, o_f) → Bd κ A s (cw κ a r16 q18 f_48) H locs → ∀ ls : Array Slot, lv_has ls 7 [(6, .int y6_48), (5, .int x13), (4, .ref (a (6 + 2 * x5))), (0, .ref (a 0)), (1, .int p0), (2, .int p1), (3, .int p2)] → W p l e (Rm 7 111 2 12) s m args below meth c H locs 2 12 Q (F0 m 48 ls []) := by
      intro nn48
      induction nn48 with
      | zero => intro y6_48 f_48 H locs hμ; exact absurd hμ (Nat.not_lt_zero _)
      | succ nn48 ih48 =>
        intro y6_48 f_48 H locs hμ48 hR hB ls hl
        replace hR := (D_X5_drop_48_s).symm.trans hR
        refine lv_iload hx hb dX5_drop_48 (lv_at hl 0 rfl) ?_
        refine lv_iload hx hb dX5_drop_50 (lv_at hl 1 rfl) ?_
        refine lv_iconst (v := 1) hx hb dX5_drop_52 (by decide) ?_
        refine lv_isub hx hb dX5_drop_53 ?_
        refine lv_icmp_ge (tgt := 77) hx hb dX5_drop_54 (by decide) (fun c70 => ?_) (fun c70 => ?_)
        · replace hR := ifp c70 hR
          refine lv_aload hx hb dX5_drop_77 (lv_at hl 2 rfl) ?_
          refine lv_iload_n hx hb dX5_drop_79 rfl (lv_at hl 5 rfl) ?_
          have jn95 : ∀ (z0_95 : Int32) (H : Heap) (locs : List Loc), D_X5_drop_j95 p1 x5 x13 r16 q18 f_48 z0_95 = (o_E, o_x, o_r, o_q, o_f) → Bd κ A s (cw κ a r16 q18 f_48) H locs → ∀ ls : Array Slot, lv_has ls 7 [(6, .int y6_48), (5, .int x13), (4, .ref (a (6 + 2 * x5))), (0, .ref (a 0)), (1, .int p0), (2, .int p1), (3, .int p2)] → W p l e (Rm 7 111 2 12) s m args below meth c H locs 2 12 Q (F0 m 95 ls [.int z0_95, .ref (a (6 + 2 * x5))]) := by
            intro z0_95 H locs hR hB ls hl
            replace hR := (D_X5_drop_j95_s).symm.trans hR
            refine lv_iload_n hx hb dX5_drop_95 rfl (lv_at hl 5 rfl) ?_
            have jn111 : ∀ (z0_111 : Int32) (H : Heap) (locs : List Loc), D_X5_drop_j111 x5 x13 r16 q18 f_48 z0_95 z0_111 = (o_E, o_x, o_r, o_q, o_f) → Bd κ A s (cw κ a r16 q18 f_48) H locs → ∀ ls : Array Slot, lv_has ls 7 [(6, .int y6_48), (5, .int x13), (4, .ref (a (6 + 2 * x5))), (0, .ref (a 0)), (1, .int p0), (2, .int p1), (3, .int p2)] → W p l e (Rm 7 111 2 12) s m args below meth c H locs 2 12 Q (F0 m 111 ls [.int z0_111, .int z0_95, .ref (a (6 + 2 * x5))]) := by
              intro z0_111 H locs hR hB ls hl
              replace hR := (D_X5_drop_j111_s).symm.trans hR
              obtain ⟨r74, q76, f78, hd73⟩ := ex3 (D_X3_reshape r16 q18 f_48 x5 z0_95 z0_111)
              replace hR := bnd3_use hd73 hR
              refine call_V (n := 2) (As := [.int z0_95, .int z0_111]) (rest := []) hX hB (k_X3_reshape κ l a r16 q18 f_48 x5 z0_95 z0_111 (lt15 hx5) r74 q76 f78 hd73) ⟨rfl, yk_X3_reshape⟩ wm_3_23 wm_1_213 wm_1_214 wm_1_2 wm_1_215 ⟨Nat.le_of_ble_eq_true rfl, Nat.le_of_ble_eq_true rfl⟩ ⟨Nat.le_of_ble_eq_true rfl, Nat.le_of_ble_eq_true rfl⟩ (cwG (i := x5) (lt15 hx5)) rfl rfl rfl hl.1 rfl (Nat.le_of_ble_eq_true rfl) dX5_drop_111 (fun o w' H locs hp hB => ?_)
              obtain ⟨rfl, ho75, hq77, rfl⟩ := hp
              refine W.eq (g2 := F0 m 114 ls []) rfl ?_
              refine lv_aload hx hb dX5_drop_114 (lv_at hl 2 rfl) ?_
              refine lv_aload_n hx hb dX5_drop_116 rfl (lv_at hl 3 rfl) ?_
              refine gf hX hB cw0 rfl in5 1 (by decide) wm_1_138 rfl rfl dX5_drop_117 ?_
              obtain ⟨f80, hd79⟩ := ex1 (D_X3_takeOver r74 q76 f78 x5 4)
              replace hR := bnd1_use hd79 hR
              refine call_V (n := 1) (As := [.ref (a 14)]) (rest := []) hX hB (k_X3_takeOver κ l a r74 q76 f78 x5 4 (lt15 hx5) (by decide) f80 hd79) ⟨rfl, yk_X3_takeOver⟩ wm_3_135 wm_3_136 wm_3_137 wm_1_2 wm_3_138 ⟨Nat.le_of_ble_eq_true rfl, Nat.le_of_ble_eq_true rfl⟩ ⟨Nat.le_of_ble_eq_true rfl, Nat.le_of_ble_eq_true rfl⟩ (cwG (i := x5) (lt15 hx5)) rfl rfl rfl hl.1 rfl (Nat.le_of_ble_eq_true rfl) dX5_drop_120 (fun o w' H locs hp hB => ?_)
              obtain ⟨rfl, rfl⟩ := hp
              refine W.eq (g2 := F0 m 123 ls []) rfl ?_
              refine lv_aload_n hx hb dX5_drop_123 rfl (lv_at hl 3 rfl) ?_
              refine lv_iload hx hb dX5_drop_124 (lv_at hl 1 rfl) ?_
              refine lv_iconst (v := 1) hx hb dX5_drop_126 (by decide) ?_
              refine lv_isub hx hb dX5_drop_127 ?_
              obtain ⟨x82, q83, f85, hd81⟩ := ex3 (D_X5_tellDone r74 q76 f80 (x13 - 1))
              replace hR := bnd3_use hd81 hR
              refine call_V (n := 1) (As := [.int (x13 - 1)]) (rest := []) hX hB (k_X5_tellDone κ l a r74 q76 f80 (x13 - 1) x82 q83 f85 hd81) ⟨rfl, yk_X5_tellDone⟩ wm_3_24 wm_3_26 wp_19 wm_1_1 wm_3_27 ⟨Nat.le_of_ble_eq_true rfl, Nat.le_of_ble_eq_true rfl⟩ ⟨Nat.le_of_ble_eq_true rfl, Nat.le_of_ble_eq_true rfl⟩ cw0 rfl rfl rfl hl.1 rfl (Nat.le_of_ble_eq_true rfl) dX5_drop_128 (fun o w' H locs hp hB => ?_)
              obtain ⟨rfl, hq84, rfl⟩ := hp
              refine W.eq (g2 := F0 m 131 ls [.int x82]) rfl ?_
              rw [← hQ]
              exact vx_ret ( end_i hX hB hA3 rfl rfl (by obtain ⟨rfl, rfl, rfl, rfl, rfl⟩ := pr5 hR; exact ⟨rfl, rfl, (fun h => ho75 ((fun h => ho17 ((fun h => h) h)) h)), (hq84.trans (hq77.trans (hq19.trans rfl))), rfl⟩) (Nat.le_of_ble_eq_true rfl) (Nat.le_of_ble_eq_true rfl) dX5_drop_131)
            refine lv_if_eq (tgt := 106) hx hb dX5_drop_96 (by decide) (fun c86 => ?_) (fun c86 => ?_)
            · replace hR := ifp c86 hR
              refine lv_aload hx hb dX5_drop_106 (lv_at hl 2 rfl) ?_
              refine gfN hX hB (cwG (i := x5) (lt15 hx5)) rfl in3 2 (by decide) wn_1_57 rfl rfl dX5_drop_108 ?_
              exact jn111 (r16 (2 * x5 + 1)) _ _  hR hB _ hl
            · replace hR := ifn c86 hR
              refine lv_iload hx hb dX5_drop_99 (lv_at hl 1 rfl) ?_
              refine lv_iconst (v := 1) hx hb dX5_drop_101 (by decide) ?_
              refine lv_isub hx hb dX5_drop_102 ?_
              refine lv_goto (tgt := 111) hx hb dX5_drop_103 (by decide) ?_
              exact jn111 (x13 - 1) _ _  hR hB _ hl
          refine lv_if_eq (tgt := 91) hx hb dX5_drop_80 (by decide) (fun c87 => ?_) (fun c87 => ?_)
          · replace hR := ifp c87 hR
            refine lv_iload hx hb dX5_drop_91 (lv_at hl 1 rfl) ?_
            refine lv_iconst (v := 1) hx hb dX5_drop_93 (by decide) ?_
            refine lv_isub hx hb dX5_drop_94 ?_
            exact jn95 (x13 - 1) _ _  hR hB _ hl
          · replace hR := ifn c87 hR
            refine lv_aload hx hb dX5_drop_83 (lv_at hl 2 rfl) ?_
            refine gfN hX hB (cwG (i := x5) (lt15 hx5)) rfl in3 1 (by decide) wn_1_51 rfl rfl dX5_drop_85 ?_
            refine lv_goto (tgt := 95) hx hb dX5_drop_88 (by decide) ?_
            exact jn95 (r16 (2 * x5)) _ _  hR hB _ hl
        · replace hR := ifn c70 hR
          refine lv_aload_n hx hb dX5_drop_57 rfl (lv_at hl 3 rfl) ?_
          refine gf hX hB cw0 rfl in5 1 (by decide) wm_1_138 rfl rfl dX5_drop_58 ?_
          refine lv_iload_n hx hb dX5_drop_61 rfl (lv_at hl 5 rfl) ?_
          refine lv_iload hx hb dX5_drop_62 (lv_at hl 0 rfl) ?_
          refine lv_iload hx hb dX5_drop_64 (lv_at hl 0 rfl) ?_
          refine lv_iconst (v := 1) hx hb dX5_drop_66 (by decide) ?_
          refine lv_iadd hx hb dX5_drop_67 ?_
          obtain ⟨f89, hd88⟩ := ex1 (D_X3_exchangeLines r16 q18 f_48 4 p1 y6_48 (y6_48 + 1))
          replace hR := bnd1_use hd88 hR
          refine call_V (n := 3) (As := [.int p1, .int y6_48, .int (y6_48 + 1)]) (rest := []) hX hB (k_X3_exchangeLines κ l a r16 q18 f_48 4 p1 y6_48 (y6_48 + 1) (by decide) f89 hd88) ⟨rfl, yk_X3_exchangeLines⟩ wm_3_96 wm_2_4 wm_2_5 wm_1_2 wm_2_6 ⟨Nat.le_of_ble_eq_true rfl, Nat.le_of_ble_eq_true rfl⟩ ⟨Nat.le_of_ble_eq_true rfl, Nat.le_of_ble_eq_true rfl⟩ (cwG (i := 4) (by decide)) rfl rfl rfl hl.1 rfl (Nat.le_of_ble_eq_true rfl) dX5_drop_68 (fun o w' H locs hp hB => ?_)
          obtain ⟨rfl, rfl⟩ := hp
          refine W.eq (g2 := F0 m 71 ls []) rfl ?_
          refine lv_iinc (v := y6_48 + 1) (lv' := [(6, .int (y6_48 + 1)), (5, .int x13), (4, .ref (a (6 + 2 * x5))), (0, .ref (a 0)), (1, .int p0), (2, .int p1), (3, .int p2)]) hx hb dX5_drop_71 hl (k := 0) rfl rfl (by decide) rfl (fun ls hl => ?_)
          refine lv_goto (tgt := 48) hx hb dX5_drop_74 (by decide) ?_
          exact ih48 (y6_48 + 1) f89 _ _  (gap_step c70 hμ48) hR hB _ hl
    exact lp48 _ p2 f20 _ _  (Nat.lt_succ_self _) hR hB _ hl
  · replace hR := ifn c14 hR
    refine lv_aload_n hx hb dX5_drop_31 rfl (lv_at hl 2 rfl) ?_
    obtain ⟨x91, q92, f94, hd90⟩ := ex3 (D_X5_tellRefused r q f)
    replace hR := bnd3_use hd90 hR
    refine call_V (n := 0) (As := []) (rest := []) hX hB (k_X5_tellRefused κ l a r q f x91 q92 f94 hd90) ⟨rfl, yk_X5_tellRefused⟩ wm_3_103 wm_3_105 wp_21 wm_1_1 wm_3_106 ⟨Nat.le_of_ble_eq_true rfl, Nat.le_of_ble_eq_true rfl⟩ ⟨Nat.le_of_ble_eq_true rfl, Nat.le_of_ble_eq_true rfl⟩ cw0 rfl rfl rfl hl.1 rfl (Nat.le_of_ble_eq_true rfl) dX5_drop_32 (fun o w' H locs hp hB => ?_)
    obtain ⟨rfl, hq93, rfl⟩ := hp
    refine W.eq (g2 := F0 m 35 ls [.int x91]) rfl ?_
    rw [← hQ]
    exact vx_ret ( end_i hX hB hA3 rfl rfl (by obtain ⟨rfl, rfl, rfl, rfl, rfl⟩ := pr5 hR; exact ⟨rfl, rfl, (fun h => h), (hq93.trans rfl), rfl⟩) (Nat.le_of_ble_eq_true rfl) (Nat.le_of_ble_eq_true rfl) dX5_drop_35)
noncomputable def D_X5_sum_j136 (r24 : Nat → Int32) (q26 : Nat → Int32) (y8_73 : Int32) (lb86 : Int32 → (Nat → Nat → Int64) → String × Int32 × (Nat → Int32) × (Nat → Int32) × (Nat → Nat → Int64)) (y9_86 : Int32) (f_86 : Nat → Nat → Int64) (x213 : Int64) (z0_136 : Int64) : String × Int32 × (Nat → Int32) × (Nat → Int32) × (Nat → Nat → Int64) := bnd1 (D_X3_set r24 q26 f_86 4 y8_73 y9_86 (x213 + z0_136)) (fun (f216 : Nat → Nat → Int64) => (lb86 (y9_86 + 1) f216))
theorem D_X5_sum_j136_s {r24 : Nat → Int32} {q26 : Nat → Int32} {y8_73 : Int32} {lb86 : Int32 → (Nat → Nat → Int64) → String × Int32 × (Nat → Int32) × (Nat → Int32) × (Nat → Nat → Int64)} {y9_86 : Int32} {f_86 : Nat → Nat → Int64} {x213 : Int64} {z0_136 : Int64} : D_X5_sum_j136 r24 q26 y8_73 lb86 y9_86 f_86 x213 z0_136 = bnd1 (D_X3_set r24 q26 f_86 4 y8_73 y9_86 (x213 + z0_136)) (fun (f216 : Nat → Nat → Int64) => (lb86 (y9_86 + 1) f216)) := rfl
noncomputable def D_X5_sum_86 (p2 : Int32) (x5 : Nat) (x10 : Nat) (r24 : Nat → Int32) (q26 : Nat → Int32) (lb73 : Int32 → (Nat → Nat → Int64) → String × Int32 × (Nat → Int32) × (Nat → Int32) × (Nat → Nat → Int64)) (y8_73 : Int32) (nn : Nat) : Int32 → (Nat → Nat → Int64) → String × Int32 × (Nat → Int32) × (Nat → Int32) × (Nat → Nat → Int64) := @Nat.rec (fun _ => Int32 → (Nat → Nat → Int64) → String × Int32 × (Nat → Int32) × (Nat → Int32) × (Nat → Nat → Int64)) (fun _ _ => default) (fun _ lb86 (y9_86 : Int32) (f_86 : Nat → Nat → Int64) => (if (r24 (2 * x5 + 1)) ≤ y9_86 then (lb73 (y8_73 + 1) f_86) else bnd1 (D_X3_get r24 q26 f_86 x10 y8_73 y9_86) (fun (x211 : Int64) => bnd1 (D_X3_get r24 q26 f_86 x5 y8_73 y9_86) (fun (x213 : Int64) => (if p2 = 0 then (D_X5_sum_j136 r24 q26 y8_73 lb86 y9_86 f_86 x213 x211) else (D_X5_sum_j136 r24 q26 y8_73 lb86 y9_86 f_86 x213 (-x211))))))) nn
theorem D_X5_sum_86_s {p2 : Int32} {x5 : Nat} {x10 : Nat} {r24 : Nat → Int32} {q26 : Nat → Int32} {lb73 : Int32 → (Nat → Nat → Int64) → String × Int32 × (Nat → Int32) × (Nat → Int32) × (Nat → Nat → Int64)} {y8_73 : Int32} {nn : Nat} {y9_86 : Int32} {f_86 : Nat → Nat → Int64} : D_X5_sum_86 p2 x5 x10 r24 q26 lb73 y8_73 (nn + 1) y9_86 f_86 = (if (r24 (2 * x5 + 1)) ≤ y9_86 then (lb73 (y8_73 + 1) f_86) else bnd1 (D_X3_get r24 q26 f_86 x10 y8_73 y9_86) (fun (x211 : Int64) => bnd1 (D_X3_get r24 q26 f_86 x5 y8_73 y9_86) (fun (x213 : Int64) => (if p2 = 0 then (D_X5_sum_j136 r24 q26 y8_73 (D_X5_sum_86 p2 x5 x10 r24 q26 lb73 y8_73 nn) y9_86 f_86 x213 x211) else (D_X5_sum_j136 r24 q26 y8_73 (D_X5_sum_86 p2 x5 x10 r24 q26 lb73 y8_73 nn) y9_86 f_86 x213 (-x211)))))) := rfl
noncomputable def D_X5_sum_73 (p2 : Int32) (x5 : Nat) (x10 : Nat) (x15 : Nat) (r24 : Nat → Int32) (q26 : Nat → Int32) (nn : Nat) : Int32 → (Nat → Nat → Int64) → String × Int32 × (Nat → Int32) × (Nat → Int32) × (Nat → Nat → Int64) := @Nat.rec (fun _ => Int32 → (Nat → Nat → Int64) → String × Int32 × (Nat → Int32) × (Nat → Int32) × (Nat → Nat → Int64)) (fun _ _ => default) (fun _ lb73 (y8_73 : Int32) (f_73 : Nat → Nat → Int64) => (if (r24 (2 * x5)) ≤ y8_73 then bnd4 (D_X5_settleForm r24 q26 f_73 4 x15) (fun (x185 : Int32) (r186 : Nat → Int32) (q188 : Nat → Int32) (f190 : Nat → Nat → Int64) => ("", x185, r186, q188, f190)) else (D_X5_sum_86 p2 x5 x10 r24 q26 lb73 y8_73 (gap (r24 (2 * x5 + 1)) 0 + 1) 0 f_73))) nn
theorem D_X5_sum_73_s {p2 : Int32} {x5 : Nat} {x10 : Nat} {x15 : Nat} {r24 : Nat → Int32} {q26 : Nat → Int32} {nn : Nat} {y8_73 : Int32} {f_73 : Nat → Nat → Int64} : D_X5_sum_73 p2 x5 x10 x15 r24 q26 (nn + 1) y8_73 f_73 = (if (r24 (2 * x5)) ≤ y8_73 then bnd4 (D_X5_settleForm r24 q26 f_73 4 x15) (fun (x185 : Int32) (r186 : Nat → Int32) (q188 : Nat → Int32) (f190 : Nat → Nat → Int64) => ("", x185, r186, q188, f190)) else (D_X5_sum_86 p2 x5 x10 r24 q26 (D_X5_sum_73 p2 x5 x10 x15 r24 q26 nn) y8_73 (gap (r24 (2 * x5 + 1)) 0 + 1) 0 f_73)) := rfl
noncomputable def D_X5_sum (r : Nat → Int32) (q : Nat → Int32) (f : Nat → Nat → Int64) (p0 : Int32) (p1 : Int32) (p2 : Int32) (p3 : Int32) : String × Int32 × (Nat → Int32) × (Nat → Int32) × (Nat → Nat → Int64) := bnd2 (D_X5_needTable r q f p0) (fun (E2 : String) (x5 : Nat) => (if E2 = "" then bnd2 (D_X5_needTable r q f p1) (fun (E7 : String) (x10 : Nat) => (if E7 = "" then bnd2 (D_X5_needTable r q f p3) (fun (E12 : String) (x15 : Nat) => (if E12 = "" then (if (r (2 * x5)) = (r (2 * x10)) then (if (r (2 * x5 + 1)) = (r (2 * x10 + 1)) then bnd3 (D_X3_reshape r q f 4 (r (2 * x5)) (r (2 * x5 + 1))) (fun (r24 : Nat → Int32) (q26 : Nat → Int32) (f28 : Nat → Nat → Int64) => (D_X5_sum_73 p2 x5 x10 x15 r24 q26 (gap (r24 (2 * x5)) 0 + 1) 0 f28)) else bnd3 (D_X5_tellRefused r q f) (fun (x219 : Int32) (q220 : Nat → Int32) (f222 : Nat → Nat → Int64) => ("", x219, r, q220, f222))) else bnd3 (D_X5_tellRefused r q f) (fun (x18 : Int32) (q19 : Nat → Int32) (f21 : Nat → Nat → Int64) => ("", x18, r, q19, f21))) else (E12, 0, r, q, f))) else (E7, 0, r, q, f))) else (E2, 0, r, q, f)))
theorem D_X5_sum_s {r : Nat → Int32} {q : Nat → Int32} {f : Nat → Nat → Int64} {p0 : Int32} {p1 : Int32} {p2 : Int32} {p3 : Int32} : D_X5_sum r q f p0 p1 p2 p3 = bnd2 (D_X5_needTable r q f p0) (fun (E2 : String) (x5 : Nat) => (if E2 = "" then bnd2 (D_X5_needTable r q f p1) (fun (E7 : String) (x10 : Nat) => (if E7 = "" then bnd2 (D_X5_needTable r q f p3) (fun (E12 : String) (x15 : Nat) => (if E12 = "" then (if (r (2 * x5)) = (r (2 * x10)) then (if (r (2 * x5 + 1)) = (r (2 * x10 + 1)) then bnd3 (D_X3_reshape r q f 4 (r (2 * x5)) (r (2 * x5 + 1))) (fun (r24 : Nat → Int32) (q26 : Nat → Int32) (f28 : Nat → Nat → Int64) => (D_X5_sum_73 p2 x5 x10 x15 r24 q26 (gap (r24 (2 * x5)) 0 + 1) 0 f28)) else bnd3 (D_X5_tellRefused r q f) (fun (x219 : Int32) (q220 : Nat → Int32) (f222 : Nat → Nat → Int64) => ("", x219, r, q220, f222))) else bnd3 (D_X5_tellRefused r q f) (fun (x18 : Int32) (q19 : Nat → Int32) (f21 : Nat → Nat → Int64) => ("", x18, r, q19, f21))) else (E12, 0, r, q, f))) else (E7, 0, r, q, f))) else (E2, 0, r, q, f))) := rfl
set_option maxHeartbeats 4000000 in
set_option maxRecDepth 100000 in
theorem k_X5_sum (κ : Kt) (l : Launch) (hst : l.stackTraces = false) (a : Nat → Nat) (r q : Nat → Int32) (f : Nat → Nat → Int64) (p0 : Int32) (p1 : Int32) (p2 : Int32) (p3 : Int32)  (o_E : String) (o_x : Int32) (o_r : Nat → Int32) (o_q : Nat → Int32) (o_f : Nat → Nat → Int64) (hR : D_X5_sum r q f p0 p1 p2 p3 = (o_E, o_x, o_r, o_q, o_f)) : CX κ l yX5_sum cX5_sum 12 (some .int) 7 111 3 18 [.ref (a 0), .int p0, .int p1, .int p2, .int p3] (cw κ a r q f) (fun o w' => o_E = "" ∧ o = some (.int o_x) ∧ (okr r → okr o_r) ∧ o_q 4 = q 4 ∧ w' = cw κ a o_r o_q o_f) (fun E w' => o_E = E ∧ o_E ∈ (["java/lang/IndexOutOfBoundsException"] : List String) ∧ (okr r → okr o_r) ∧ o_q 4 = q 4 ∧ w' = cw κ a o_r o_q o_f) := by
  refine CX_begin (by decide) (Nat.le_of_ble_eq_true rfl) ?_
  intro p e s m args below meth c A Q hX hne hA3 hQ hB ls hl
  have hx := hX.1.1
  have hb := hX.1.2.1
  have hl : lv_has ls 12 [(0, .ref (a 0)), (1, .int p0), (2, .int p1), (3, .int p2), (4, .int p3)] := hl
  replace hR := (D_X5_sum_s).symm.trans hR
  refine lv_aload_n hx hb dX5_sum_0 rfl (lv_at hl 0 rfl) ?_
  refine lv_iload_n hx hb dX5_sum_1 rfl (lv_at hl 1 rfl) ?_
  obtain ⟨E2, x5, hd1⟩ := ex2 (D_X5_needTable r q f p0)
  replace hR := bnd2_use hd1 hR
  refine CX_after2 hX hB (run_XV (n := 1) (As := [.int p0]) (rest := []) hX hB (k_X5_needTable κ l hst a r q f p0 E2 x5 hd1) ⟨rfl, yk_X5_needTable⟩ wm_2_165 wm_2_167 wp_17 wm_1_1 wm_2_168 ⟨Nat.le_of_ble_eq_true rfl, Nat.le_of_ble_eq_true rfl⟩ ⟨Nat.le_of_ble_eq_true rfl, Nat.le_of_ble_eq_true rfl⟩ cw0 rfl rfl rfl hl.1 rfl (Nat.le_of_ble_eq_true rfl) dX5_sum_2) (fun E ce q9 w' H locs hp hB hce hcv hcl => ?_) (fun o w' H locs hp hB => ?_)
  · obtain ⟨he3, hE4, rfl⟩ := hp
    replace hR := ifn (ne_mt hE4 (by decide)) hR
    rw [← hQ]
    exact thrown_on hX hne hB hA3 hce hcv hcl (by obtain ⟨rfl, rfl, rfl, rfl, rfl⟩ := pr5 hR; exact ⟨he3, ((by decide : ∀ x ∈ (["java/lang/IndexOutOfBoundsException"] : List String), x ∈ (["java/lang/IndexOutOfBoundsException"] : List String)) _ hE4), (fun h => h), rfl, rfl⟩) (Nat.le_of_ble_eq_true rfl) (Nat.le_of_ble_eq_true rfl)
  obtain ⟨he3, hx5, rfl, rfl⟩ := hp
  replace hR := ifp he3 hR
  refine W.eq (g2 := F0 m 5 ls [.ref (a (6 + 2 * x5))]) rfl ?_
  refine lv_astore (lv' := [(5, .ref (a (6 + 2 * x5))), (0, .ref (a 0)), (1, .int p0), (2, .int p1), (3, .int p2), (4, .int p3)]) hx hb dX5_sum_5 hl (by decide) rfl (fun ls hl => ?_)
  refine lv_aload_n hx hb dX5_sum_7 rfl (lv_at hl 1 rfl) ?_
  refine lv_iload_n hx hb dX5_sum_8 rfl (lv_at hl 3 rfl) ?_
  obtain ⟨E7, x10, hd6⟩ := ex2 (D_X5_needTable r q f p1)
  replace hR := bnd2_use hd6 hR
  refine CX_after2 hX hB (run_XV (n := 1) (As := [.int p1]) (rest := []) hX hB (k_X5_needTable κ l hst a r q f p1 E7 x10 hd6) ⟨rfl, yk_X5_needTable⟩ wm_2_165 wm_2_167 wp_17 wm_1_1 wm_2_168 ⟨Nat.le_of_ble_eq_true rfl, Nat.le_of_ble_eq_true rfl⟩ ⟨Nat.le_of_ble_eq_true rfl, Nat.le_of_ble_eq_true rfl⟩ cw0 rfl rfl rfl hl.1 rfl (Nat.le_of_ble_eq_true rfl) dX5_sum_9) (fun E ce q9 w' H locs hp hB hce hcv hcl => ?_) (fun o w' H locs hp hB => ?_)
  · obtain ⟨he8, hE9, rfl⟩ := hp
    replace hR := ifn (ne_mt hE9 (by decide)) hR
    rw [← hQ]
    exact thrown_on hX hne hB hA3 hce hcv hcl (by obtain ⟨rfl, rfl, rfl, rfl, rfl⟩ := pr5 hR; exact ⟨he8, ((by decide : ∀ x ∈ (["java/lang/IndexOutOfBoundsException"] : List String), x ∈ (["java/lang/IndexOutOfBoundsException"] : List String)) _ hE9), (fun h => h), rfl, rfl⟩) (Nat.le_of_ble_eq_true rfl) (Nat.le_of_ble_eq_true rfl)
  obtain ⟨he8, hx10, rfl, rfl⟩ := hp
  replace hR := ifp he8 hR
  refine W.eq (g2 := F0 m 12 ls [.ref (a (6 + 2 * x10))]) rfl ?_
  refine lv_astore (lv' := [(6, .ref (a (6 + 2 * x10))), (5, .ref (a (6 + 2 * x5))), (0, .ref (a 0)), (1, .int p0), (2, .int p1), (3, .int p2), (4, .int p3)]) hx hb dX5_sum_12 hl (by decide) rfl (fun ls hl => ?_)
  refine lv_aload_n hx hb dX5_sum_14 rfl (lv_at hl 2 rfl) ?_
  refine lv_iload hx hb dX5_sum_15 (lv_at hl 6 rfl) ?_
  obtain ⟨E12, x15, hd11⟩ := ex2 (D_X5_needTable r q f p3)
  replace hR := bnd2_use hd11 hR
  refine CX_after2 hX hB (run_XV (n := 1) (As := [.int p3]) (rest := []) hX hB (k_X5_needTable κ l hst a r q f p3 E12 x15 hd11) ⟨rfl, yk_X5_needTable⟩ wm_2_165 wm_2_167 wp_17 wm_1_1 wm_2_168 ⟨Nat.le_of_ble_eq_true rfl, Nat.le_of_ble_eq_true rfl⟩ ⟨Nat.le_of_ble_eq_true rfl, Nat.le_of_ble_eq_true rfl⟩ cw0 rfl rfl rfl hl.1 rfl (Nat.le_of_ble_eq_true rfl) dX5_sum_17) (fun E ce q9 w' H locs hp hB hce hcv hcl => ?_) (fun o w' H locs hp hB => ?_)
  · obtain ⟨he13, hE14, rfl⟩ := hp
    replace hR := ifn (ne_mt hE14 (by decide)) hR
    rw [← hQ]
    exact thrown_on hX hne hB hA3 hce hcv hcl (by obtain ⟨rfl, rfl, rfl, rfl, rfl⟩ := pr5 hR; exact ⟨he13, ((by decide : ∀ x ∈ (["java/lang/IndexOutOfBoundsException"] : List String), x ∈ (["java/lang/IndexOutOfBoundsException"] : List String)) _ hE14), (fun h => h), rfl, rfl⟩) (Nat.le_of_ble_eq_true rfl) (Nat.le_of_ble_eq_true rfl)
  obtain ⟨he13, hx15, rfl, rfl⟩ := hp
  replace hR := ifp he13 hR
  refine W.eq (g2 := F0 m 20 ls [.ref (a (6 + 2 * x15))]) rfl ?_
  refine lv_astore (lv' := [(7, .ref (a (6 + 2 * x15))), (6, .ref (a (6 + 2 * x10))), (5, .ref (a (6 + 2 * x5))), (0, .ref (a 0)), (1, .int p0), (2, .int p1), (3, .int p2), (4, .int p3)]) hx hb dX5_sum_20 hl (by decide) rfl (fun ls hl => ?_)
  refine lv_aload hx hb dX5_sum_22 (lv_at hl 2 rfl) ?_
  refine gfN hX hB (cwG (i := x5) (lt15 hx5)) rfl in3 1 (by decide) wn_1_51 rfl rfl dX5_sum_24 ?_
  refine lv_aload hx hb dX5_sum_27 (lv_at hl 1 rfl) ?_
  refine gfN hX hB (cwG (i := x10) (lt15 hx10)) rfl in3 1 (by decide) wn_1_51 rfl rfl dX5_sum_29 ?_
  refine lv_icmp_ne (tgt := 48) hx hb dX5_sum_32 (by decide) (fun c16 => ?_) (fun c16 => ?_)
  · replace hR := ifn c16 hR
    refine lv_aload_n hx hb dX5_sum_48 rfl (lv_at hl 3 rfl) ?_
    obtain ⟨x18, q19, f21, hd17⟩ := ex3 (D_X5_tellRefused r q f)
    replace hR := bnd3_use hd17 hR
    refine call_V (n := 0) (As := []) (rest := []) hX hB (k_X5_tellRefused κ l a r q f x18 q19 f21 hd17) ⟨rfl, yk_X5_tellRefused⟩ wm_3_103 wm_3_105 wp_21 wm_1_1 wm_3_106 ⟨Nat.le_of_ble_eq_true rfl, Nat.le_of_ble_eq_true rfl⟩ ⟨Nat.le_of_ble_eq_true rfl, Nat.le_of_ble_eq_true rfl⟩ cw0 rfl rfl rfl hl.1 rfl (Nat.le_of_ble_eq_true rfl) dX5_sum_49 (fun o w' H locs hp hB => ?_)
    obtain ⟨rfl, hq20, rfl⟩ := hp
    refine W.eq (g2 := F0 m 52 ls [.int x18]) rfl ?_
    rw [← hQ]
    exact vx_ret ( end_i hX hB hA3 rfl rfl (by obtain ⟨rfl, rfl, rfl, rfl, rfl⟩ := pr5 hR; exact ⟨rfl, rfl, (fun h => h), (hq20.trans rfl), rfl⟩) (Nat.le_of_ble_eq_true rfl) (Nat.le_of_ble_eq_true rfl) dX5_sum_52)
  · replace hR := ifp c16 hR
    refine lv_aload hx hb dX5_sum_35 (lv_at hl 2 rfl) ?_
    refine gfN hX hB (cwG (i := x5) (lt15 hx5)) rfl in3 2 (by decide) wn_1_57 rfl rfl dX5_sum_37 ?_
    refine lv_aload hx hb dX5_sum_40 (lv_at hl 1 rfl) ?_
    refine gfN hX hB (cwG (i := x10) (lt15 hx10)) rfl in3 2 (by decide) wn_1_57 rfl rfl dX5_sum_42 ?_
    refine lv_icmp_eq (tgt := 53) hx hb dX5_sum_45 (by decide) (fun c22 => ?_) (fun c22 => ?_)
    · replace hR := ifp c22 hR
      refine lv_aload_n hx hb dX5_sum_53 rfl (lv_at hl 3 rfl) ?_
      refine gf hX hB cw0 rfl in5 1 (by decide) wm_1_138 rfl rfl dX5_sum_54 ?_
      refine lv_aload hx hb dX5_sum_57 (lv_at hl 2 rfl) ?_
      refine gfN hX hB (cwG (i := x5) (lt15 hx5)) rfl in3 1 (by decide) wn_1_51 rfl rfl dX5_sum_59 ?_
      refine lv_aload hx hb dX5_sum_62 (lv_at hl 2 rfl) ?_
      refine gfN hX hB (cwG (i := x5) (lt15 hx5)) rfl in3 2 (by decide) wn_1_57 rfl rfl dX5_sum_64 ?_
      obtain ⟨r24, q26, f28, hd23⟩ := ex3 (D_X3_reshape r q f 4 (r (2 * x5)) (r (2 * x5 + 1)))
      replace hR := bnd3_use hd23 hR
      refine call_V (n := 2) (As := [.int (r (2 * x5)), .int (r (2 * x5 + 1))]) (rest := []) hX hB (k_X3_reshape κ l a r q f 4 (r (2 * x5)) (r (2 * x5 + 1)) (by decide) r24 q26 f28 hd23) ⟨rfl, yk_X3_reshape⟩ wm_3_23 wm_1_213 wm_1_214 wm_1_2 wm_1_215 ⟨Nat.le_of_ble_eq_true rfl, Nat.le_of_ble_eq_true rfl⟩ ⟨Nat.le_of_ble_eq_true rfl, Nat.le_of_ble_eq_true rfl⟩ (cwG (i := 4) (by decide)) rfl rfl rfl hl.1 rfl (Nat.le_of_ble_eq_true rfl) dX5_sum_67 (fun o w' H locs hp hB => ?_)
      obtain ⟨rfl, ho25, hq27, rfl⟩ := hp
      refine W.eq (g2 := F0 m 70 ls []) rfl ?_
      refine lv_iconst (v := 0) hx hb dX5_sum_70 (by decide) ?_
      refine lv_istore (lv' := [(8, .int 0), (7, .ref (a (6 + 2 * x15))), (6, .ref (a (6 + 2 * x10))), (5, .ref (a (6 + 2 * x5))), (0, .ref (a 0)), (1, .int p0), (2, .int p1), (3, .int p2), (4, .int p3)]) hx hb dX5_sum_71 hl (by decide) rfl (fun ls hl => ?_)
      have lp73 : ∀ (nn73 : Nat) (y8_73 : Int32) (f_73 : Nat → Nat → Int64) (H : Heap) (locs : List Loc), gap (r24 (2 * x5)) y8_73 < nn73 → D_X5_sum_73 p2 x5 x10 x15 r24 q26 nn73 y8_73 f_73 = (o_E, o_x, o_r, o_q, o_f) → Bd κ A s (cw κ a r24 q26 f_73) H locs → ∀ ls : Array Slot, lv_has ls 12 [(8, .int y8_73), (7, .ref (a (6 + 2 * x15))), (6, .ref (a (6 + 2 * x10))), (5, .ref (a (6 + 2 * x5))), (0, .ref (a 0)), (1, .int p0), (2, .int p1), (3, .int p2), (4, .int p3)] → W p l e (Rm 7 111 3 18) s m args below meth c H locs 3 18 Q (F0 m 73 ls []) := by
        intro nn73
        induction nn73 with
        | zero => intro y8_73 f_73 H locs hμ; exact absurd hμ (Nat.not_lt_zero _)
        | succ nn73 ih73 =>
          intro y8_73 f_73 H locs hμ73 hR hB ls hl
          replace hR := (D_X5_sum_73_s).symm.trans hR
          refine lv_iload hx hb dX5_sum_73 (lv_at hl 0 rfl) ?_
          refine lv_aload hx hb dX5_sum_75 (lv_at hl 3 rfl) ?_
          refine gfN hX hB (cwG (i := x5) (lt15 hx5)) rfl in3 1 (by decide) wn_1_51 rfl rfl dX5_sum_77 ?_
          refine lv_icmp_ge (tgt := 152) hx hb dX5_sum_80 (by decide) (fun c183 => ?_) (fun c183 => ?_)
          · replace hR := ifp c183 hR
            refine lv_aload_n hx hb dX5_sum_152 rfl (lv_at hl 4 rfl) ?_
            refine lv_aload_n hx hb dX5_sum_153 rfl (lv_at hl 4 rfl) ?_
            refine gf hX hB cw0 rfl in5 1 (by decide) wm_1_138 rfl rfl dX5_sum_154 ?_
            refine lv_aload hx hb dX5_sum_157 (lv_at hl 1 rfl) ?_
            obtain ⟨x185, r186, q188, f190, hd184⟩ := ex4 (D_X5_settleForm r24 q26 f_73 4 x15)
            replace hR := bnd4_use hd184 hR
            refine call_V (n := 2) (As := [.ref (a 14), .ref (a (6 + 2 * x15))]) (rest := []) hX hB (k_X5_settleForm κ l a r24 q26 f_73 4 x15 (by decide) (lt15 hx15) x185 r186 q188 f190 hd184) ⟨rfl, yk_X5_settleForm⟩ wm_3_153 wm_3_155 wp_22 wm_1_1 wm_3_156 ⟨Nat.le_of_ble_eq_true rfl, Nat.le_of_ble_eq_true rfl⟩ ⟨Nat.le_of_ble_eq_true rfl, Nat.le_of_ble_eq_true rfl⟩ cw0 rfl rfl rfl hl.1 rfl (Nat.le_of_ble_eq_true rfl) dX5_sum_159 (fun o w' H locs hp hB => ?_)
            obtain ⟨rfl, ho187, hq189, rfl⟩ := hp
            refine W.eq (g2 := F0 m 162 ls [.int x185]) rfl ?_
            rw [← hQ]
            exact vx_ret ( end_i hX hB hA3 rfl rfl (by obtain ⟨rfl, rfl, rfl, rfl, rfl⟩ := pr5 hR; exact ⟨rfl, rfl, (fun h => ho187 ((fun h => ho25 ((fun h => h) h)) h)), (hq189.trans (hq27.trans rfl)), rfl⟩) (Nat.le_of_ble_eq_true rfl) (Nat.le_of_ble_eq_true rfl) dX5_sum_162)
          · replace hR := ifn c183 hR
            refine lv_iconst (v := 0) hx hb dX5_sum_83 (by decide) ?_
            refine lv_istore (lv' := [(9, .int 0), (8, .int y8_73), (7, .ref (a (6 + 2 * x15))), (6, .ref (a (6 + 2 * x10))), (5, .ref (a (6 + 2 * x5))), (0, .ref (a 0)), (1, .int p0), (2, .int p1), (3, .int p2), (4, .int p3)]) hx hb dX5_sum_84 hl (by decide) rfl (fun ls hl => ?_)
            have lp86 : ∀ (nn86 : Nat) (y9_86 : Int32) (f_86 : Nat → Nat → Int64) (H : Heap) (locs : List Loc), gap (r24 (2 * x5 + 1)) y9_86 < nn86 → D_X5_sum_86 p2 x5 x10 r24 q26 (D_X5_sum_73 p2 x5 x10 x15 r24 q26 nn73) y8_73 nn86 y9_86 f_86 = (o_E, o_x, o_r, o_q, o_f) → Bd κ A s (cw κ a r24 q26 f_86) H locs → ∀ ls : Array Slot, lv_has ls 12 [(9, .int y9_86), (8, .int y8_73), (7, .ref (a (6 + 2 * x15))), (6, .ref (a (6 + 2 * x10))), (5, .ref (a (6 + 2 * x5))), (0, .ref (a 0)), (1, .int p0), (2, .int p1), (3, .int p2), (4, .int p3)] → W p l e (Rm 7 111 3 18) s m args below meth c H locs 3 18 Q (F0 m 86 ls []) := by
              intro nn86
              induction nn86 with
              | zero => intro y9_86 f_86 H locs hμ; exact absurd hμ (Nat.not_lt_zero _)
              | succ nn86 ih86 =>
                intro y9_86 f_86 H locs hμ86 hR hB ls hl
                replace hR := (D_X5_sum_86_s).symm.trans hR
                refine lv_iload hx hb dX5_sum_86 (lv_at hl 0 rfl) ?_
                refine lv_aload hx hb dX5_sum_88 (lv_at hl 4 rfl) ?_
                refine gfN hX hB (cwG (i := x5) (lt15 hx5)) rfl in3 2 (by decide) wn_1_57 rfl rfl dX5_sum_90 ?_
                refine lv_icmp_ge (tgt := 146) hx hb dX5_sum_93 (by decide) (fun c209 => ?_) (fun c209 => ?_)
                · replace hR := ifp c209 hR
                  refine lv_iinc (v := y8_73 + 1) (lv' := [(8, .int (y8_73 + 1)), (9, .int y9_86), (7, .ref (a (6 + 2 * x15))), (6, .ref (a (6 + 2 * x10))), (5, .ref (a (6 + 2 * x5))), (0, .ref (a 0)), (1, .int p0), (2, .int p1), (3, .int p2), (4, .int p3)]) hx hb dX5_sum_146 hl (k := 1) rfl rfl (by decide) rfl (fun ls hl => ?_)
                  refine lv_goto (tgt := 73) hx hb dX5_sum_149 (by decide) ?_
                  exact ih73 (y8_73 + 1) f_86 _ _  (gap_step c183 hμ73) hR hB _ (lv_sub hl [0, 2, 3, 4, 5, 6, 7, 8, 9] rfl)
                · replace hR := ifn c209 hR
                  refine lv_aload hx hb dX5_sum_96 (lv_at hl 3 rfl) ?_
                  refine lv_iload hx hb dX5_sum_98 (lv_at hl 1 rfl) ?_
                  refine lv_iload hx hb dX5_sum_100 (lv_at hl 0 rfl) ?_
                  obtain ⟨x211, hd210⟩ := ex1 (D_X3_get r24 q26 f_86 x10 y8_73 y9_86)
                  replace hR := bnd1_use hd210 hR
                  refine call_V (n := 2) (As := [.int y8_73, .int y9_86]) (rest := []) hX hB (k_X3_get κ l a r24 q26 f_86 x10 y8_73 y9_86 (lt15 hx10) x211 hd210) ⟨rfl, yk_X3_get⟩ wm_2_123 wm_1_187 wm_1_188 wm_1_2 wm_1_189 ⟨Nat.le_of_ble_eq_true rfl, Nat.le_of_ble_eq_true rfl⟩ ⟨Nat.le_of_ble_eq_true rfl, Nat.le_of_ble_eq_true rfl⟩ (cwG (i := x10) (lt15 hx10)) rfl rfl rfl hl.1 rfl (Nat.le_of_ble_eq_true rfl) dX5_sum_102 (fun o w' H locs hp hB => ?_)
                  obtain ⟨rfl, rfl⟩ := hp
                  refine W.eq (g2 := F0 m 105 ls [.long x211]) rfl ?_
                  refine lv_lstore (lv' := [(10, .long x211), (9, .int y9_86), (8, .int y8_73), (7, .ref (a (6 + 2 * x15))), (6, .ref (a (6 + 2 * x10))), (5, .ref (a (6 + 2 * x5))), (0, .ref (a 0)), (1, .int p0), (2, .int p1), (3, .int p2), (4, .int p3)]) hx hb dX5_sum_105 hl (by decide) rfl (fun ls hl => ?_)
                  refine lv_aload_n hx hb dX5_sum_107 rfl (lv_at hl 6 rfl) ?_
                  refine gf hX hB cw0 rfl in5 1 (by decide) wm_1_138 rfl rfl dX5_sum_108 ?_
                  refine lv_iload hx hb dX5_sum_111 (lv_at hl 2 rfl) ?_
                  refine lv_iload hx hb dX5_sum_113 (lv_at hl 1 rfl) ?_
                  refine lv_aload hx hb dX5_sum_115 (lv_at hl 5 rfl) ?_
                  refine lv_iload hx hb dX5_sum_117 (lv_at hl 2 rfl) ?_
                  refine lv_iload hx hb dX5_sum_119 (lv_at hl 1 rfl) ?_
                  obtain ⟨x213, hd212⟩ := ex1 (D_X3_get r24 q26 f_86 x5 y8_73 y9_86)
                  replace hR := bnd1_use hd212 hR
                  refine call_V (n := 2) (As := [.int y8_73, .int y9_86]) (rest := [.int y9_86, .int y8_73, .ref (a 14)]) hX hB (k_X3_get κ l a r24 q26 f_86 x5 y8_73 y9_86 (lt15 hx5) x213 hd212) ⟨rfl, yk_X3_get⟩ wm_2_123 wm_1_187 wm_1_188 wm_1_2 wm_1_189 ⟨Nat.le_of_ble_eq_true rfl, Nat.le_of_ble_eq_true rfl⟩ ⟨Nat.le_of_ble_eq_true rfl, Nat.le_of_ble_eq_true rfl⟩ (cwG (i := x5) (lt15 hx5)) rfl rfl rfl hl.1 rfl (Nat.le_of_ble_eq_true rfl) dX5_sum_121 (fun o w' H locs hp hB => ?_)
                  obtain ⟨rfl, rfl⟩ := hp
                  refine W.eq (g2 := F0 m 124 ls [.long x213, .int y9_86, .int y8_73, .ref (a 14)]) rfl ?_
                  refine lv_iload_n hx hb dX5_sum_124 rfl (lv_at hl 9 rfl) ?_
                  have jn136 : ∀ (z0_136 : Int64) (H : Heap) (locs : List Loc), D_X5_sum_j136 r24 q26 y8_73 (D_X5_sum_86 p2 x5 x10 r24 q26 (D_X5_sum_73 p2 x5 x10 x15 r24 q26 nn73) y8_73 nn86) y9_86 f_86 x213 z0_136 = (o_E, o_x, o_r, o_q, o_f) → Bd κ A s (cw κ a r24 q26 f_86) H locs → ∀ ls : Array Slot, lv_has ls 12 [(10, .long x211), (9, .int y9_86), (8, .int y8_73), (7, .ref (a (6 + 2 * x15))), (6, .ref (a (6 + 2 * x10))), (5, .ref (a (6 + 2 * x5))), (0, .ref (a 0)), (1, .int p0), (2, .int p1), (3, .int p2), (4, .int p3)] → W p l e (Rm 7 111 3 18) s m args below meth c H locs 3 18 Q (F0 m 136 ls [.long z0_136, .long x213, .int y9_86, .int y8_73, .ref (a 14)]) := by
                    intro z0_136 H locs hR hB ls hl
                    replace hR := (D_X5_sum_j136_s).symm.trans hR
                    refine lv_ladd hx hb dX5_sum_136 ?_
                    obtain ⟨f216, hd215⟩ := ex1 (D_X3_set r24 q26 f_86 4 y8_73 y9_86 (x213 + z0_136))
                    replace hR := bnd1_use hd215 hR
                    refine call_V (n := 3) (As := [.int y8_73, .int y9_86, .long (x213 + z0_136)]) (rest := []) hX hB (k_X3_set κ l a r24 q26 f_86 4 y8_73 y9_86 (x213 + z0_136) (by decide) f216 hd215) ⟨rfl, yk_X3_set⟩ wm_3_51 wm_1_223 wm_1_224 wm_1_2 wm_1_225 ⟨Nat.le_of_ble_eq_true rfl, Nat.le_of_ble_eq_true rfl⟩ ⟨Nat.le_of_ble_eq_true rfl, Nat.le_of_ble_eq_true rfl⟩ (cwG (i := 4) (by decide)) rfl rfl rfl hl.1 rfl (Nat.le_of_ble_eq_true rfl) dX5_sum_137 (fun o w' H locs hp hB => ?_)
                    obtain ⟨rfl, rfl⟩ := hp
                    refine W.eq (g2 := F0 m 140 ls []) rfl ?_
                    refine lv_iinc (v := y9_86 + 1) (lv' := [(9, .int (y9_86 + 1)), (10, .long x211), (8, .int y8_73), (7, .ref (a (6 + 2 * x15))), (6, .ref (a (6 + 2 * x10))), (5, .ref (a (6 + 2 * x5))), (0, .ref (a 0)), (1, .int p0), (2, .int p1), (3, .int p2), (4, .int p3)]) hx hb dX5_sum_140 hl (k := 1) rfl rfl (by decide) rfl (fun ls hl => ?_)
                    refine lv_goto (tgt := 86) hx hb dX5_sum_143 (by decide) ?_
                    exact ih86 (y9_86 + 1) f216 _ _  (gap_step c209 hμ86) hR hB _ (lv_sub hl [0, 2, 3, 4, 5, 6, 7, 8, 9, 10] rfl)
                  refine lv_if_eq (tgt := 134) hx hb dX5_sum_125 (by decide) (fun c217 => ?_) (fun c217 => ?_)
                  · replace hR := ifp c217 hR
                    refine lv_lload hx hb dX5_sum_134 (lv_at hl 0 rfl) ?_
                    exact jn136 x211 _ _  hR hB _ hl
                  · replace hR := ifn c217 hR
                    refine lv_lload hx hb dX5_sum_128 (lv_at hl 0 rfl) ?_
                    refine lv_lneg hx hb dX5_sum_130 ?_
                    refine lv_goto (tgt := 136) hx hb dX5_sum_131 (by decide) ?_
                    exact jn136 (-x211) _ _  hR hB _ hl
            exact lp86 _ 0 f_73 _ _  (Nat.lt_succ_self _) hR hB _ hl
      exact lp73 _ 0 f28 _ _  (Nat.lt_succ_self _) hR hB _ hl
    · replace hR := ifn c22 hR
      refine lv_aload_n hx hb dX5_sum_48 rfl (lv_at hl 3 rfl) ?_
      obtain ⟨x219, q220, f222, hd218⟩ := ex3 (D_X5_tellRefused r q f)
      replace hR := bnd3_use hd218 hR
      refine call_V (n := 0) (As := []) (rest := []) hX hB (k_X5_tellRefused κ l a r q f x219 q220 f222 hd218) ⟨rfl, yk_X5_tellRefused⟩ wm_3_103 wm_3_105 wp_21 wm_1_1 wm_3_106 ⟨Nat.le_of_ble_eq_true rfl, Nat.le_of_ble_eq_true rfl⟩ ⟨Nat.le_of_ble_eq_true rfl, Nat.le_of_ble_eq_true rfl⟩ cw0 rfl rfl rfl hl.1 rfl (Nat.le_of_ble_eq_true rfl) dX5_sum_49 (fun o w' H locs hp hB => ?_)
      obtain ⟨rfl, hq221, rfl⟩ := hp
      refine W.eq (g2 := F0 m 52 ls [.int x219]) rfl ?_
      rw [← hQ]
      exact vx_ret ( end_i hX hB hA3 rfl rfl (by obtain ⟨rfl, rfl, rfl, rfl, rfl⟩ := pr5 hR; exact ⟨rfl, rfl, (fun h => h), (hq221.trans rfl), rfl⟩) (Nat.le_of_ble_eq_true rfl) (Nat.le_of_ble_eq_true rfl) dX5_sum_52)
noncomputable def D_X5_multiply (r : Nat → Int32) (q : Nat → Int32) (f : Nat → Nat → Int64) (p0 : Int32) (p1 : Int32) (p2 : Int32) : String × Int32 × (Nat → Int32) × (Nat → Int32) × (Nat → Nat → Int64) := bnd2 (D_X5_needTable r q f p0) (fun (E2 : String) (x5 : Nat) => (if E2 = "" then bnd2 (D_X5_needTable r q f p1) (fun (E7 : String) (x10 : Nat) => (if E7 = "" then bnd2 (D_X5_needTable r q f p2) (fun (E12 : String) (x15 : Nat) => (if E12 = "" then (if (r (2 * x5 + 1)) = (r (2 * x10)) then bnd3 (D_X3_becomeProduct r q f 4 x5 x10) (fun (r18 : Nat → Int32) (q20 : Nat → Int32) (f22 : Nat → Nat → Int64) => bnd4 (D_X5_settleForm r18 q20 f22 4 x15) (fun (x24 : Int32) (r25 : Nat → Int32) (q27 : Nat → Int32) (f29 : Nat → Nat → Int64) => ("", x24, r25, q27, f29))) else bnd3 (D_X5_tellRefused r q f) (fun (x31 : Int32) (q32 : Nat → Int32) (f34 : Nat → Nat → Int64) => ("", x31, r, q32, f34))) else (E12, 0, r, q, f))) else (E7, 0, r, q, f))) else (E2, 0, r, q, f)))
theorem D_X5_multiply_s {r : Nat → Int32} {q : Nat → Int32} {f : Nat → Nat → Int64} {p0 : Int32} {p1 : Int32} {p2 : Int32} : D_X5_multiply r q f p0 p1 p2 = bnd2 (D_X5_needTable r q f p0) (fun (E2 : String) (x5 : Nat) => (if E2 = "" then bnd2 (D_X5_needTable r q f p1) (fun (E7 : String) (x10 : Nat) => (if E7 = "" then bnd2 (D_X5_needTable r q f p2) (fun (E12 : String) (x15 : Nat) => (if E12 = "" then (if (r (2 * x5 + 1)) = (r (2 * x10)) then bnd3 (D_X3_becomeProduct r q f 4 x5 x10) (fun (r18 : Nat → Int32) (q20 : Nat → Int32) (f22 : Nat → Nat → Int64) => bnd4 (D_X5_settleForm r18 q20 f22 4 x15) (fun (x24 : Int32) (r25 : Nat → Int32) (q27 : Nat → Int32) (f29 : Nat → Nat → Int64) => ("", x24, r25, q27, f29))) else bnd3 (D_X5_tellRefused r q f) (fun (x31 : Int32) (q32 : Nat → Int32) (f34 : Nat → Nat → Int64) => ("", x31, r, q32, f34))) else (E12, 0, r, q, f))) else (E7, 0, r, q, f))) else (E2, 0, r, q, f))) := rfl
set_option maxHeartbeats 4000000 in
set_option maxRecDepth 100000 in
theorem k_X5_multiply (κ : Kt) (l : Launch) (hst : l.stackTraces = false) (a : Nat → Nat) (r q : Nat → Int32) (f : Nat → Nat → Int64) (p0 : Int32) (p1 : Int32) (p2 : Int32)  (o_E : String) (o_x : Int32) (o_r : Nat → Int32) (o_q : Nat → Int32) (o_f : Nat → Nat → Int64) (hR : D_X5_multiply r q f p0 p1 p2 = (o_E, o_x, o_r, o_q, o_f)) : CX κ l yX5_multiply cX5_multiply 7 (some .int) 7 111 3 18 [.ref (a 0), .int p0, .int p1, .int p2] (cw κ a r q f) (fun o w' => o_E = "" ∧ o = some (.int o_x) ∧ (okr r → okr o_r) ∧ o_q 4 = q 4 ∧ w' = cw κ a o_r o_q o_f) (fun E w' => o_E = E ∧ o_E ∈ (["java/lang/IndexOutOfBoundsException"] : List String) ∧ (okr r → okr o_r) ∧ o_q 4 = q 4 ∧ w' = cw κ a o_r o_q o_f) := by
  refine CX_begin (by decide) (Nat.le_of_ble_eq_true rfl) ?_
  intro p e s m args below meth c A Q hX hne hA3 hQ hB ls hl
  have hx := hX.1.1
  have hb := hX.1.2.1
  have hl : lv_has ls 7 [(0, .ref (a 0)), (1, .int p0), (2, .int p1), (3, .int p2)] := hl
  replace hR := (D_X5_multiply_s).symm.trans hR
  refine lv_aload_n hx hb dX5_multiply_0 rfl (lv_at hl 0 rfl) ?_
  refine lv_iload_n hx hb dX5_multiply_1 rfl (lv_at hl 1 rfl) ?_
  obtain ⟨E2, x5, hd1⟩ := ex2 (D_X5_needTable r q f p0)
  replace hR := bnd2_use hd1 hR
  refine CX_after2 hX hB (run_XV (n := 1) (As := [.int p0]) (rest := []) hX hB (k_X5_needTable κ l hst a r q f p0 E2 x5 hd1) ⟨rfl, yk_X5_needTable⟩ wm_2_165 wm_2_167 wp_17 wm_1_1 wm_2_168 ⟨Nat.le_of_ble_eq_true rfl, Nat.le_of_ble_eq_true rfl⟩ ⟨Nat.le_of_ble_eq_true rfl, Nat.le_of_ble_eq_true rfl⟩ cw0 rfl rfl rfl hl.1 rfl (Nat.le_of_ble_eq_true rfl) dX5_multiply_2) (fun E ce q9 w' H locs hp hB hce hcv hcl => ?_) (fun o w' H locs hp hB => ?_)
  · obtain ⟨he3, hE4, rfl⟩ := hp
    replace hR := ifn (ne_mt hE4 (by decide)) hR
    rw [← hQ]
    exact thrown_on hX hne hB hA3 hce hcv hcl (by obtain ⟨rfl, rfl, rfl, rfl, rfl⟩ := pr5 hR; exact ⟨he3, ((by decide : ∀ x ∈ (["java/lang/IndexOutOfBoundsException"] : List String), x ∈ (["java/lang/IndexOutOfBoundsException"] : List String)) _ hE4), (fun h => h), rfl, rfl⟩) (Nat.le_of_ble_eq_true rfl) (Nat.le_of_ble_eq_true rfl)
  obtain ⟨he3, hx5, rfl, rfl⟩ := hp
  replace hR := ifp he3 hR
  refine W.eq (g2 := F0 m 5 ls [.ref (a (6 + 2 * x5))]) rfl ?_
  refine lv_astore (lv' := [(4, .ref (a (6 + 2 * x5))), (0, .ref (a 0)), (1, .int p0), (2, .int p1), (3, .int p2)]) hx hb dX5_multiply_5 hl (by decide) rfl (fun ls hl => ?_)
  refine lv_aload_n hx hb dX5_multiply_7 rfl (lv_at hl 1 rfl) ?_
  refine lv_iload_n hx hb dX5_multiply_8 rfl (lv_at hl 3 rfl) ?_
  obtain ⟨E7, x10, hd6⟩ := ex2 (D_X5_needTable r q f p1)
  replace hR := bnd2_use hd6 hR
  refine CX_after2 hX hB (run_XV (n := 1) (As := [.int p1]) (rest := []) hX hB (k_X5_needTable κ l hst a r q f p1 E7 x10 hd6) ⟨rfl, yk_X5_needTable⟩ wm_2_165 wm_2_167 wp_17 wm_1_1 wm_2_168 ⟨Nat.le_of_ble_eq_true rfl, Nat.le_of_ble_eq_true rfl⟩ ⟨Nat.le_of_ble_eq_true rfl, Nat.le_of_ble_eq_true rfl⟩ cw0 rfl rfl rfl hl.1 rfl (Nat.le_of_ble_eq_true rfl) dX5_multiply_9) (fun E ce q9 w' H locs hp hB hce hcv hcl => ?_) (fun o w' H locs hp hB => ?_)
  · obtain ⟨he8, hE9, rfl⟩ := hp
    replace hR := ifn (ne_mt hE9 (by decide)) hR
    rw [← hQ]
    exact thrown_on hX hne hB hA3 hce hcv hcl (by obtain ⟨rfl, rfl, rfl, rfl, rfl⟩ := pr5 hR; exact ⟨he8, ((by decide : ∀ x ∈ (["java/lang/IndexOutOfBoundsException"] : List String), x ∈ (["java/lang/IndexOutOfBoundsException"] : List String)) _ hE9), (fun h => h), rfl, rfl⟩) (Nat.le_of_ble_eq_true rfl) (Nat.le_of_ble_eq_true rfl)
  obtain ⟨he8, hx10, rfl, rfl⟩ := hp
  replace hR := ifp he8 hR
  refine W.eq (g2 := F0 m 12 ls [.ref (a (6 + 2 * x10))]) rfl ?_
  refine lv_astore (lv' := [(5, .ref (a (6 + 2 * x10))), (4, .ref (a (6 + 2 * x5))), (0, .ref (a 0)), (1, .int p0), (2, .int p1), (3, .int p2)]) hx hb dX5_multiply_12 hl (by decide) rfl (fun ls hl => ?_)
  refine lv_aload_n hx hb dX5_multiply_14 rfl (lv_at hl 2 rfl) ?_
  refine lv_iload_n hx hb dX5_multiply_15 rfl (lv_at hl 5 rfl) ?_
  obtain ⟨E12, x15, hd11⟩ := ex2 (D_X5_needTable r q f p2)
  replace hR := bnd2_use hd11 hR
  refine CX_after2 hX hB (run_XV (n := 1) (As := [.int p2]) (rest := []) hX hB (k_X5_needTable κ l hst a r q f p2 E12 x15 hd11) ⟨rfl, yk_X5_needTable⟩ wm_2_165 wm_2_167 wp_17 wm_1_1 wm_2_168 ⟨Nat.le_of_ble_eq_true rfl, Nat.le_of_ble_eq_true rfl⟩ ⟨Nat.le_of_ble_eq_true rfl, Nat.le_of_ble_eq_true rfl⟩ cw0 rfl rfl rfl hl.1 rfl (Nat.le_of_ble_eq_true rfl) dX5_multiply_16) (fun E ce q9 w' H locs hp hB hce hcv hcl => ?_) (fun o w' H locs hp hB => ?_)
  · obtain ⟨he13, hE14, rfl⟩ := hp
    replace hR := ifn (ne_mt hE14 (by decide)) hR
    rw [← hQ]
    exact thrown_on hX hne hB hA3 hce hcv hcl (by obtain ⟨rfl, rfl, rfl, rfl, rfl⟩ := pr5 hR; exact ⟨he13, ((by decide : ∀ x ∈ (["java/lang/IndexOutOfBoundsException"] : List String), x ∈ (["java/lang/IndexOutOfBoundsException"] : List String)) _ hE14), (fun h => h), rfl, rfl⟩) (Nat.le_of_ble_eq_true rfl) (Nat.le_of_ble_eq_true rfl)
  obtain ⟨he13, hx15, rfl, rfl⟩ := hp
  replace hR := ifp he13 hR
  refine W.eq (g2 := F0 m 19 ls [.ref (a (6 + 2 * x15))]) rfl ?_
  refine lv_astore (lv' := [(6, .ref (a (6 + 2 * x15))), (5, .ref (a (6 + 2 * x10))), (4, .ref (a (6 + 2 * x5))), (0, .ref (a 0)), (1, .int p0), (2, .int p1), (3, .int p2)]) hx hb dX5_multiply_19 hl (by decide) rfl (fun ls hl => ?_)
  refine lv_aload hx hb dX5_multiply_21 (lv_at hl 2 rfl) ?_
  refine gfN hX hB (cwG (i := x5) (lt15 hx5)) rfl in3 2 (by decide) wn_1_57 rfl rfl dX5_multiply_23 ?_
  refine lv_aload hx hb dX5_multiply_26 (lv_at hl 1 rfl) ?_
  refine gfN hX hB (cwG (i := x10) (lt15 hx10)) rfl in3 1 (by decide) wn_1_51 rfl rfl dX5_multiply_28 ?_
  refine lv_icmp_eq (tgt := 39) hx hb dX5_multiply_31 (by decide) (fun c16 => ?_) (fun c16 => ?_)
  · replace hR := ifp c16 hR
    refine lv_aload_n hx hb dX5_multiply_39 rfl (lv_at hl 3 rfl) ?_
    refine gf hX hB cw0 rfl in5 1 (by decide) wm_1_138 rfl rfl dX5_multiply_40 ?_
    refine lv_aload hx hb dX5_multiply_43 (lv_at hl 2 rfl) ?_
    refine lv_aload hx hb dX5_multiply_45 (lv_at hl 1 rfl) ?_
    obtain ⟨r18, q20, f22, hd17⟩ := ex3 (D_X3_becomeProduct r q f 4 x5 x10)
    replace hR := bnd3_use hd17 hR
    refine call_V (n := 2) (As := [.ref (a (6 + 2 * x5)), .ref (a (6 + 2 * x10))]) (rest := []) hX hB (k_X3_becomeProduct κ l a r q f 4 x5 x10 (by decide) (lt15 hx5) (lt15 hx10) r18 q20 f22 hd17) ⟨rfl, yk_X3_becomeProduct⟩ wm_2_40 wm_2_41 wm_2_42 wm_1_2 wm_2_43 ⟨Nat.le_of_ble_eq_true rfl, Nat.le_of_ble_eq_true rfl⟩ ⟨Nat.le_of_ble_eq_true rfl, Nat.le_of_ble_eq_true rfl⟩ (cwG (i := 4) (by decide)) rfl rfl rfl hl.1 rfl (Nat.le_of_ble_eq_true rfl) dX5_multiply_47 (fun o w' H locs hp hB => ?_)
    obtain ⟨rfl, ho19, hq21, rfl⟩ := hp
    refine W.eq (g2 := F0 m 50 ls []) rfl ?_
    refine lv_aload_n hx hb dX5_multiply_50 rfl (lv_at hl 3 rfl) ?_
    refine lv_aload_n hx hb dX5_multiply_51 rfl (lv_at hl 3 rfl) ?_
    refine gf hX hB cw0 rfl in5 1 (by decide) wm_1_138 rfl rfl dX5_multiply_52 ?_
    refine lv_aload hx hb dX5_multiply_55 (lv_at hl 0 rfl) ?_
    obtain ⟨x24, r25, q27, f29, hd23⟩ := ex4 (D_X5_settleForm r18 q20 f22 4 x15)
    replace hR := bnd4_use hd23 hR
    refine call_V (n := 2) (As := [.ref (a 14), .ref (a (6 + 2 * x15))]) (rest := []) hX hB (k_X5_settleForm κ l a r18 q20 f22 4 x15 (by decide) (lt15 hx15) x24 r25 q27 f29 hd23) ⟨rfl, yk_X5_settleForm⟩ wm_3_153 wm_3_155 wp_22 wm_1_1 wm_3_156 ⟨Nat.le_of_ble_eq_true rfl, Nat.le_of_ble_eq_true rfl⟩ ⟨Nat.le_of_ble_eq_true rfl, Nat.le_of_ble_eq_true rfl⟩ cw0 rfl rfl rfl hl.1 rfl (Nat.le_of_ble_eq_true rfl) dX5_multiply_57 (fun o w' H locs hp hB => ?_)
    obtain ⟨rfl, ho26, hq28, rfl⟩ := hp
    refine W.eq (g2 := F0 m 60 ls [.int x24]) rfl ?_
    rw [← hQ]
    exact vx_ret ( end_i hX hB hA3 rfl rfl (by obtain ⟨rfl, rfl, rfl, rfl, rfl⟩ := pr5 hR; exact ⟨rfl, rfl, (fun h => ho26 ((fun h => ho19 ((fun h => h) h)) h)), (hq28.trans (hq21.trans rfl)), rfl⟩) (Nat.le_of_ble_eq_true rfl) (Nat.le_of_ble_eq_true rfl) dX5_multiply_60)
  · replace hR := ifn c16 hR
    refine lv_aload_n hx hb dX5_multiply_34 rfl (lv_at hl 3 rfl) ?_
    obtain ⟨x31, q32, f34, hd30⟩ := ex3 (D_X5_tellRefused r q f)
    replace hR := bnd3_use hd30 hR
    refine call_V (n := 0) (As := []) (rest := []) hX hB (k_X5_tellRefused κ l a r q f x31 q32 f34 hd30) ⟨rfl, yk_X5_tellRefused⟩ wm_3_103 wm_3_105 wp_21 wm_1_1 wm_3_106 ⟨Nat.le_of_ble_eq_true rfl, Nat.le_of_ble_eq_true rfl⟩ ⟨Nat.le_of_ble_eq_true rfl, Nat.le_of_ble_eq_true rfl⟩ cw0 rfl rfl rfl hl.1 rfl (Nat.le_of_ble_eq_true rfl) dX5_multiply_35 (fun o w' H locs hp hB => ?_)
    obtain ⟨rfl, hq33, rfl⟩ := hp
    refine W.eq (g2 := F0 m 38 ls [.int x31]) rfl ?_
    rw [← hQ]
    exact vx_ret ( end_i hX hB hA3 rfl rfl (by obtain ⟨rfl, rfl, rfl, rfl, rfl⟩ := pr5 hR; exact ⟨rfl, rfl, (fun h => h), (hq33.trans rfl), rfl⟩) (Nat.le_of_ble_eq_true rfl) (Nat.le_of_ble_eq_true rfl) dX5_multiply_38)
noncomputable def D_X5_take (r : Nat → Int32) (q : Nat → Int32) (f : Nat → Nat → Int64) (p0 : Int32) (p1 : Int32) (p2 : Int32) : String × Int32 × (Nat → Int32) × (Nat → Int32) × (Nat → Nat → Int64) := bnd2 (D_X5_needTable r q f p0) (fun (E2 : String) (x5 : Nat) => (if E2 = "" then bnd2 (D_X5_needTable r q f p2) (fun (E7 : String) (x10 : Nat) => (if E7 = "" then bnd1 (D_X5_isForm p1) (fun (x11 : Int32) => bnd1 (D_X5_needArgument r q f x11) (fun (E14 : String) => (if E14 = "" then bnd4 (D_X5_findForm r q f x5 p1) (fun (x18 : Nat) (r19 : Nat → Int32) (q21 : Nat → Int32) (f23 : Nat → Nat → Int64) => (if x18 = 15 then bnd3 (D_X5_tellRefused r19 q21 f23) (fun (x26 : Int32) (q27 : Nat → Int32) (f29 : Nat → Nat → Int64) => ("", x26, r19, q27, f29)) else bnd4 (D_X5_settleForm r19 q21 f23 x18 x10) (fun (x31 : Int32) (r32 : Nat → Int32) (q34 : Nat → Int32) (f36 : Nat → Nat → Int64) => ("", x31, r32, q34, f36)))) else (E14, 0, r, q, f)))) else (E7, 0, r, q, f))) else (E2, 0, r, q, f)))
theorem D_X5_take_s {r : Nat → Int32} {q : Nat → Int32} {f : Nat → Nat → Int64} {p0 : Int32} {p1 : Int32} {p2 : Int32} : D_X5_take r q f p0 p1 p2 = bnd2 (D_X5_needTable r q f p0) (fun (E2 : String) (x5 : Nat) => (if E2 = "" then bnd2 (D_X5_needTable r q f p2) (fun (E7 : String) (x10 : Nat) => (if E7 = "" then bnd1 (D_X5_isForm p1) (fun (x11 : Int32) => bnd1 (D_X5_needArgument r q f x11) (fun (E14 : String) => (if E14 = "" then bnd4 (D_X5_findForm r q f x5 p1) (fun (x18 : Nat) (r19 : Nat → Int32) (q21 : Nat → Int32) (f23 : Nat → Nat → Int64) => (if x18 = 15 then bnd3 (D_X5_tellRefused r19 q21 f23) (fun (x26 : Int32) (q27 : Nat → Int32) (f29 : Nat → Nat → Int64) => ("", x26, r19, q27, f29)) else bnd4 (D_X5_settleForm r19 q21 f23 x18 x10) (fun (x31 : Int32) (r32 : Nat → Int32) (q34 : Nat → Int32) (f36 : Nat → Nat → Int64) => ("", x31, r32, q34, f36)))) else (E14, 0, r, q, f)))) else (E7, 0, r, q, f))) else (E2, 0, r, q, f))) := rfl
set_option maxHeartbeats 4000000 in
set_option maxRecDepth 100000 in
theorem k_X5_take (κ : Kt) (l : Launch) (hst : l.stackTraces = false) (a : Nat → Nat) (r q : Nat → Int32) (f : Nat → Nat → Int64) (p0 : Int32) (p1 : Int32) (p2 : Int32)  (o_E : String) (o_x : Int32) (o_r : Nat → Int32) (o_q : Nat → Int32) (o_f : Nat → Nat → Int64) (hR : D_X5_take r q f p0 p1 p2 = (o_E, o_x, o_r, o_q, o_f)) : CX κ l yX5_take cX5_take 7 (some .int) 7 146 3 18 [.ref (a 0), .int p0, .int p1, .int p2] (cw κ a r q f) (fun o w' => o_E = "" ∧ o = some (.int o_x) ∧ (okr r → okr o_r) ∧ o_q 4 = q 4 ∧ w' = cw κ a o_r o_q o_f) (fun E w' => o_E = E ∧ o_E ∈ (["java/lang/IndexOutOfBoundsException", "java/lang/IllegalArgumentException"] : List String) ∧ (okr r → okr o_r) ∧ o_q 4 = q 4 ∧ w' = cw κ a o_r o_q o_f) := by
  refine CX_begin (by decide) (Nat.le_of_ble_eq_true rfl) ?_
  intro p e s m args below meth c A Q hX hne hA3 hQ hB ls hl
  have hx := hX.1.1
  have hb := hX.1.2.1
  have hl : lv_has ls 7 [(0, .ref (a 0)), (1, .int p0), (2, .int p1), (3, .int p2)] := hl
  replace hR := (D_X5_take_s).symm.trans hR
  refine lv_aload_n hx hb dX5_take_0 rfl (lv_at hl 0 rfl) ?_
  refine lv_iload_n hx hb dX5_take_1 rfl (lv_at hl 1 rfl) ?_
  obtain ⟨E2, x5, hd1⟩ := ex2 (D_X5_needTable r q f p0)
  replace hR := bnd2_use hd1 hR
  refine CX_after2 hX hB (run_XV (n := 1) (As := [.int p0]) (rest := []) hX hB (k_X5_needTable κ l hst a r q f p0 E2 x5 hd1) ⟨rfl, yk_X5_needTable⟩ wm_2_165 wm_2_167 wp_17 wm_1_1 wm_2_168 ⟨Nat.le_of_ble_eq_true rfl, Nat.le_of_ble_eq_true rfl⟩ ⟨Nat.le_of_ble_eq_true rfl, Nat.le_of_ble_eq_true rfl⟩ cw0 rfl rfl rfl hl.1 rfl (Nat.le_of_ble_eq_true rfl) dX5_take_2) (fun E ce q9 w' H locs hp hB hce hcv hcl => ?_) (fun o w' H locs hp hB => ?_)
  · obtain ⟨he3, hE4, rfl⟩ := hp
    replace hR := ifn (ne_mt hE4 (by decide)) hR
    rw [← hQ]
    exact thrown_on hX hne hB hA3 hce hcv hcl (by obtain ⟨rfl, rfl, rfl, rfl, rfl⟩ := pr5 hR; exact ⟨he3, ((by decide : ∀ x ∈ (["java/lang/IndexOutOfBoundsException"] : List String), x ∈ (["java/lang/IndexOutOfBoundsException", "java/lang/IllegalArgumentException"] : List String)) _ hE4), (fun h => h), rfl, rfl⟩) (Nat.le_of_ble_eq_true rfl) (Nat.le_of_ble_eq_true rfl)
  obtain ⟨he3, hx5, rfl, rfl⟩ := hp
  replace hR := ifp he3 hR
  refine W.eq (g2 := F0 m 5 ls [.ref (a (6 + 2 * x5))]) rfl ?_
  refine lv_astore (lv' := [(4, .ref (a (6 + 2 * x5))), (0, .ref (a 0)), (1, .int p0), (2, .int p1), (3, .int p2)]) hx hb dX5_take_5 hl (by decide) rfl (fun ls hl => ?_)
  refine lv_aload_n hx hb dX5_take_7 rfl (lv_at hl 1 rfl) ?_
  refine lv_iload_n hx hb dX5_take_8 rfl (lv_at hl 4 rfl) ?_
  obtain ⟨E7, x10, hd6⟩ := ex2 (D_X5_needTable r q f p2)
  replace hR := bnd2_use hd6 hR
  refine CX_after2 hX hB (run_XV (n := 1) (As := [.int p2]) (rest := []) hX hB (k_X5_needTable κ l hst a r q f p2 E7 x10 hd6) ⟨rfl, yk_X5_needTable⟩ wm_2_165 wm_2_167 wp_17 wm_1_1 wm_2_168 ⟨Nat.le_of_ble_eq_true rfl, Nat.le_of_ble_eq_true rfl⟩ ⟨Nat.le_of_ble_eq_true rfl, Nat.le_of_ble_eq_true rfl⟩ cw0 rfl rfl rfl hl.1 rfl (Nat.le_of_ble_eq_true rfl) dX5_take_9) (fun E ce q9 w' H locs hp hB hce hcv hcl => ?_) (fun o w' H locs hp hB => ?_)
  · obtain ⟨he8, hE9, rfl⟩ := hp
    replace hR := ifn (ne_mt hE9 (by decide)) hR
    rw [← hQ]
    exact thrown_on hX hne hB hA3 hce hcv hcl (by obtain ⟨rfl, rfl, rfl, rfl, rfl⟩ := pr5 hR; exact ⟨he8, ((by decide : ∀ x ∈ (["java/lang/IndexOutOfBoundsException"] : List String), x ∈ (["java/lang/IndexOutOfBoundsException", "java/lang/IllegalArgumentException"] : List String)) _ hE9), (fun h => h), rfl, rfl⟩) (Nat.le_of_ble_eq_true rfl) (Nat.le_of_ble_eq_true rfl)
  obtain ⟨he8, hx10, rfl, rfl⟩ := hp
  replace hR := ifp he8 hR
  refine W.eq (g2 := F0 m 12 ls [.ref (a (6 + 2 * x10))]) rfl ?_
  refine lv_astore (lv' := [(5, .ref (a (6 + 2 * x10))), (4, .ref (a (6 + 2 * x5))), (0, .ref (a 0)), (1, .int p0), (2, .int p1), (3, .int p2)]) hx hb dX5_take_12 hl (by decide) rfl (fun ls hl => ?_)
  refine lv_iload_n hx hb dX5_take_14 rfl (lv_at hl 4 rfl) ?_
  obtain ⟨x11, hd12⟩ := ex1 (D_X5_isForm p1)
  replace hR := bnd1_use hd12 hR
  refine call_S (n := 1) (As := [.int p1]) (rest := []) hX hB (k_X5_isForm κ l (cw κ a r q f) p1  x11 hd12) yk_X5_isForm wm_3_171 wm_3_172 wm_1_1 wm_3_173 ⟨Nat.le_of_ble_eq_true rfl, Nat.le_of_ble_eq_true rfl⟩ ⟨Nat.le_of_ble_eq_true rfl, Nat.le_of_ble_eq_true rfl⟩ rfl hl.1 rfl (Nat.le_of_ble_eq_true rfl) dX5_take_15 (fun o w' H locs hp hB => ?_)
  obtain ⟨rfl, bx11, hw9⟩ := hp
  rw [hw9] at hB
  refine W.eq (g2 := F0 m 18 ls [.int x11]) rfl ?_
  obtain ⟨E14, hd13⟩ := ex1 (D_X5_needArgument r q f x11)
  replace hR := bnd1_use hd13 hR
  refine CX_after2 hX hB (run_XS (n := 1) (As := [.int x11]) (rest := []) hX hB (k_X5_needArgument κ l hst a r q f x11 E14 hd13) yk_X5_needArgument wm_3_0 wm_3_1 wm_1_1 wm_3_2 ⟨Nat.le_of_ble_eq_true rfl, Nat.le_of_ble_eq_true rfl⟩ ⟨Nat.le_of_ble_eq_true rfl, Nat.le_of_ble_eq_true rfl⟩ rfl hl.1 rfl (Nat.le_of_ble_eq_true rfl) dX5_take_18) (fun E ce q9 w' H locs hp hB hce hcv hcl => ?_) (fun o w' H locs hp hB => ?_)
  · obtain ⟨he15, hE16, rfl⟩ := hp
    replace hR := ifn (ne_mt hE16 (by decide)) hR
    rw [← hQ]
    exact thrown_on hX hne hB hA3 hce hcv hcl (by obtain ⟨rfl, rfl, rfl, rfl, rfl⟩ := pr5 hR; exact ⟨he15, ((by decide : ∀ x ∈ (["java/lang/IllegalArgumentException"] : List String), x ∈ (["java/lang/IndexOutOfBoundsException", "java/lang/IllegalArgumentException"] : List String)) _ hE16), (fun h => h), rfl, rfl⟩) (Nat.le_of_ble_eq_true rfl) (Nat.le_of_ble_eq_true rfl)
  obtain ⟨he15, rfl, rfl⟩ := hp
  replace hR := ifp he15 hR
  refine W.eq (g2 := F0 m 21 ls []) rfl ?_
  refine lv_aload_n hx hb dX5_take_21 rfl (lv_at hl 2 rfl) ?_
  refine lv_aload hx hb dX5_take_22 (lv_at hl 1 rfl) ?_
  refine lv_iload_n hx hb dX5_take_24 rfl (lv_at hl 4 rfl) ?_
  obtain ⟨x18, r19, q21, f23, hd17⟩ := ex4 (D_X5_findForm r q f x5 p1)
  replace hR := bnd4_use hd17 hR
  refine call_V (n := 2) (As := [.ref (a (6 + 2 * x5)), .int p1]) (rest := []) hX hB (k_X5_findForm κ l a r q f x5 p1 (lt15 hx5) x18 r19 q21 f23 hd17) ⟨rfl, yk_X5_findForm⟩ wm_3_174 wm_3_176 wp_23 wm_1_1 wm_3_177 ⟨Nat.le_of_ble_eq_true rfl, Nat.le_of_ble_eq_true rfl⟩ ⟨Nat.le_of_ble_eq_true rfl, Nat.le_of_ble_eq_true rfl⟩ cw0 rfl rfl rfl hl.1 rfl (Nat.le_of_ble_eq_true rfl) dX5_take_25 (fun o w' H locs hp hB => ?_)
  obtain ⟨hh24, ho20, hq22, rfl⟩ := hp
  rcases hh24 with ⟨hz, rfl⟩ | ⟨hz, rfl⟩
  · replace hR := ifp hz hR
    refine W.eq (g2 := F0 m 28 ls [.null]) rfl ?_
    refine lv_astoreN (lv' := [(6, .null), (5, .ref (a (6 + 2 * x10))), (4, .ref (a (6 + 2 * x5))), (0, .ref (a 0)), (1, .int p0), (2, .int p1), (3, .int p2)]) hx hb dX5_take_28 hl (by decide) rfl (fun ls hl => ?_)
    refine lv_aloadN hx hb dX5_take_30 (lv_at hl 0 rfl) ?_
    refine lv_ifnonnullN hx hb dX5_take_32 ?_
    refine lv_aload_n hx hb dX5_take_35 rfl (lv_at hl 3 rfl) ?_
    obtain ⟨x26, q27, f29, hd25⟩ := ex3 (D_X5_tellRefused r19 q21 f23)
    replace hR := bnd3_use hd25 hR
    refine call_V (n := 0) (As := []) (rest := []) hX hB (k_X5_tellRefused κ l a r19 q21 f23 x26 q27 f29 hd25) ⟨rfl, yk_X5_tellRefused⟩ wm_3_103 wm_3_105 wp_21 wm_1_1 wm_3_106 ⟨Nat.le_of_ble_eq_true rfl, Nat.le_of_ble_eq_true rfl⟩ ⟨Nat.le_of_ble_eq_true rfl, Nat.le_of_ble_eq_true rfl⟩ cw0 rfl rfl rfl hl.1 rfl (Nat.le_of_ble_eq_true rfl) dX5_take_36 (fun o w' H locs hp hB => ?_)
    obtain ⟨rfl, hq28, rfl⟩ := hp
    refine W.eq (g2 := F0 m 39 ls [.int x26]) rfl ?_
    rw [← hQ]
    exact vx_ret ( end_i hX hB hA3 rfl rfl (by obtain ⟨rfl, rfl, rfl, rfl, rfl⟩ := pr5 hR; exact ⟨rfl, rfl, (fun h => ho20 ((fun h => h) h)), (hq28.trans (hq22.trans rfl)), rfl⟩) (Nat.le_of_ble_eq_true rfl) (Nat.le_of_ble_eq_true rfl) dX5_take_39)
  · replace hR := ifn (Nat.ne_of_lt hz) hR
    refine W.eq (g2 := F0 m 28 ls [.ref (a (6 + 2 * x18))]) rfl ?_
    refine lv_astore (lv' := [(6, .ref (a (6 + 2 * x18))), (5, .ref (a (6 + 2 * x10))), (4, .ref (a (6 + 2 * x5))), (0, .ref (a 0)), (1, .int p0), (2, .int p1), (3, .int p2)]) hx hb dX5_take_28 hl (by decide) rfl (fun ls hl => ?_)
    refine lv_aload hx hb dX5_take_30 (lv_at hl 0 rfl) ?_
    refine lv_ifnonnull (tgt := 40) hx hb dX5_take_32 (by decide) ?_
    refine lv_aload_n hx hb dX5_take_40 rfl (lv_at hl 3 rfl) ?_
    refine lv_aload hx hb dX5_take_41 (lv_at hl 0 rfl) ?_
    refine lv_aload hx hb dX5_take_43 (lv_at hl 1 rfl) ?_
    obtain ⟨x31, r32, q34, f36, hd30⟩ := ex4 (D_X5_settleForm r19 q21 f23 x18 x10)
    replace hR := bnd4_use hd30 hR
    refine call_V (n := 2) (As := [.ref (a (6 + 2 * x18)), .ref (a (6 + 2 * x10))]) (rest := []) hX hB (k_X5_settleForm κ l a r19 q21 f23 x18 x10 hz (lt15 hx10) x31 r32 q34 f36 hd30) ⟨rfl, yk_X5_settleForm⟩ wm_3_153 wm_3_155 wp_22 wm_1_1 wm_3_156 ⟨Nat.le_of_ble_eq_true rfl, Nat.le_of_ble_eq_true rfl⟩ ⟨Nat.le_of_ble_eq_true rfl, Nat.le_of_ble_eq_true rfl⟩ cw0 rfl rfl rfl hl.1 rfl (Nat.le_of_ble_eq_true rfl) dX5_take_45 (fun o w' H locs hp hB => ?_)
    obtain ⟨rfl, ho33, hq35, rfl⟩ := hp
    refine W.eq (g2 := F0 m 48 ls [.int x31]) rfl ?_
    rw [← hQ]
    exact vx_ret ( end_i hX hB hA3 rfl rfl (by obtain ⟨rfl, rfl, rfl, rfl, rfl⟩ := pr5 hR; exact ⟨rfl, rfl, (fun h => ho33 ((fun h => ho20 ((fun h => h) h)) h)), (hq35.trans (hq22.trans rfl)), rfl⟩) (Nat.le_of_ble_eq_true rfl) (Nat.le_of_ble_eq_true rfl) dX5_take_48)
noncomputable def D_X5_solve (r : Nat → Int32) (q : Nat → Int32) (f : Nat → Nat → Int64) (p0 : Int32) (p1 : Int32) (p2 : Int32) (p3 : Int32) : String × Int32 × (Nat → Int32) × (Nat → Int32) × (Nat → Nat → Int64) := bnd2 (D_X5_needTable r q f p0) (fun (E2 : String) (x5 : Nat) => (if E2 = "" then bnd2 (D_X5_needTable r q f p1) (fun (E7 : String) (x10 : Nat) => (if E7 = "" then bnd2 (D_X5_needTable r q f p3) (fun (E12 : String) (x15 : Nat) => (if E12 = "" then bnd1 (D_X3_hasLine r q f x10 1 p2) (fun (x17 : Int32) => bnd1 (D_X5_needIndex r q f x17) (fun (E19 : String) => (if E19 = "" then (if (r (2 * x5)) = (r (2 * x10)) then bnd3 (D_X1_walk r q f x5) (fun (r24 : Nat → Int32) (q26 : Nat → Int32) (f28 : Nat → Nat → Int64) => (if (q26 1) = 0 then bnd4 (D_X2_divide r24 q26 f28 x10 p2) (fun (x36 : Int32) (r37 : Nat → Int32) (q39 : Nat → Int32) (f41 : Nat → Nat → Int64) => (if x36 = 0 then bnd3 (D_X5_tellRefused r37 q39 f41) (fun (x64 : Int32) (q65 : Nat → Int32) (f67 : Nat → Nat → Int64) => ("", x64, r37, q65, f67)) else bnd4 (D_X2_findSolution r37 q39 f41) (fun (x44 : Int32) (r45 : Nat → Int32) (q47 : Nat → Int32) (f49 : Nat → Nat → Int64) => (if x44 = 0 then bnd3 (D_X5_tellRefused r45 q47 f49) (fun (x59 : Int32) (q60 : Nat → Int32) (f62 : Nat → Nat → Int64) => ("", x59, r45, q60, f62)) else bnd4 (D_X5_settleForm r45 q47 f49 14 x15) (fun (x52 : Int32) (r53 : Nat → Int32) (q55 : Nat → Int32) (f57 : Nat → Nat → Int64) => ("", x52, r53, q55, f57)))))) else bnd3 (D_X5_tellRefused r24 q26 f28) (fun (x31 : Int32) (q32 : Nat → Int32) (f34 : Nat → Nat → Int64) => ("", x31, r24, q32, f34)))) else bnd3 (D_X5_tellRefused r q f) (fun (x69 : Int32) (q70 : Nat → Int32) (f72 : Nat → Nat → Int64) => ("", x69, r, q70, f72))) else (E19, 0, r, q, f)))) else (E12, 0, r, q, f))) else (E7, 0, r, q, f))) else (E2, 0, r, q, f)))
theorem D_X5_solve_s {r : Nat → Int32} {q : Nat → Int32} {f : Nat → Nat → Int64} {p0 : Int32} {p1 : Int32} {p2 : Int32} {p3 : Int32} : D_X5_solve r q f p0 p1 p2 p3 = bnd2 (D_X5_needTable r q f p0) (fun (E2 : String) (x5 : Nat) => (if E2 = "" then bnd2 (D_X5_needTable r q f p1) (fun (E7 : String) (x10 : Nat) => (if E7 = "" then bnd2 (D_X5_needTable r q f p3) (fun (E12 : String) (x15 : Nat) => (if E12 = "" then bnd1 (D_X3_hasLine r q f x10 1 p2) (fun (x17 : Int32) => bnd1 (D_X5_needIndex r q f x17) (fun (E19 : String) => (if E19 = "" then (if (r (2 * x5)) = (r (2 * x10)) then bnd3 (D_X1_walk r q f x5) (fun (r24 : Nat → Int32) (q26 : Nat → Int32) (f28 : Nat → Nat → Int64) => (if (q26 1) = 0 then bnd4 (D_X2_divide r24 q26 f28 x10 p2) (fun (x36 : Int32) (r37 : Nat → Int32) (q39 : Nat → Int32) (f41 : Nat → Nat → Int64) => (if x36 = 0 then bnd3 (D_X5_tellRefused r37 q39 f41) (fun (x64 : Int32) (q65 : Nat → Int32) (f67 : Nat → Nat → Int64) => ("", x64, r37, q65, f67)) else bnd4 (D_X2_findSolution r37 q39 f41) (fun (x44 : Int32) (r45 : Nat → Int32) (q47 : Nat → Int32) (f49 : Nat → Nat → Int64) => (if x44 = 0 then bnd3 (D_X5_tellRefused r45 q47 f49) (fun (x59 : Int32) (q60 : Nat → Int32) (f62 : Nat → Nat → Int64) => ("", x59, r45, q60, f62)) else bnd4 (D_X5_settleForm r45 q47 f49 14 x15) (fun (x52 : Int32) (r53 : Nat → Int32) (q55 : Nat → Int32) (f57 : Nat → Nat → Int64) => ("", x52, r53, q55, f57)))))) else bnd3 (D_X5_tellRefused r24 q26 f28) (fun (x31 : Int32) (q32 : Nat → Int32) (f34 : Nat → Nat → Int64) => ("", x31, r24, q32, f34)))) else bnd3 (D_X5_tellRefused r q f) (fun (x69 : Int32) (q70 : Nat → Int32) (f72 : Nat → Nat → Int64) => ("", x69, r, q70, f72))) else (E19, 0, r, q, f)))) else (E12, 0, r, q, f))) else (E7, 0, r, q, f))) else (E2, 0, r, q, f))) := rfl
set_option maxHeartbeats 4000000 in
set_option maxRecDepth 100000 in
theorem k_X5_solve (κ : Kt) (l : Launch) (hst : l.stackTraces = false) (a : Nat → Nat) (r q : Nat → Int32) (f : Nat → Nat → Int64) (p0 : Int32) (p1 : Int32) (p2 : Int32) (p3 : Int32)  (o_E : String) (o_x : Int32) (o_r : Nat → Int32) (o_q : Nat → Int32) (o_f : Nat → Nat → Int64) (hR : D_X5_solve r q f p0 p1 p2 p3 = (o_E, o_x, o_r, o_q, o_f)) : CX κ l yX5_solve cX5_solve 8 (some .int) 7 122 4 24 [.ref (a 0), .int p0, .int p1, .int p2, .int p3] (cw κ a r q f) (fun o w' => o_E = "" ∧ o = some (.int o_x) ∧ (okr r → okr o_r) ∧ o_q 4 = q 4 ∧ w' = cw κ a o_r o_q o_f) (fun E w' => o_E = E ∧ o_E ∈ (["java/lang/IndexOutOfBoundsException"] : List String) ∧ (okr r → okr o_r) ∧ o_q 4 = q 4 ∧ w' = cw κ a o_r o_q o_f) := by
  refine CX_begin (by decide) (Nat.le_of_ble_eq_true rfl) ?_
  intro p e s m args below meth c A Q hX hne hA3 hQ hB ls hl
  have hx := hX.1.1
  have hb := hX.1.2.1
  have hl : lv_has ls 8 [(0, .ref (a 0)), (1, .int p0), (2, .int p1), (3, .int p2), (4, .int p3)] := hl
  replace hR := (D_X5_solve_s).symm.trans hR
  refine lv_aload_n hx hb dX5_solve_0 rfl (lv_at hl 0 rfl) ?_
  refine lv_iload_n hx hb dX5_solve_1 rfl (lv_at hl 1 rfl) ?_
  obtain ⟨E2, x5, hd1⟩ := ex2 (D_X5_needTable r q f p0)
  replace hR := bnd2_use hd1 hR
  refine CX_after2 hX hB (run_XV (n := 1) (As := [.int p0]) (rest := []) hX hB (k_X5_needTable κ l hst a r q f p0 E2 x5 hd1) ⟨rfl, yk_X5_needTable⟩ wm_2_165 wm_2_167 wp_17 wm_1_1 wm_2_168 ⟨Nat.le_of_ble_eq_true rfl, Nat.le_of_ble_eq_true rfl⟩ ⟨Nat.le_of_ble_eq_true rfl, Nat.le_of_ble_eq_true rfl⟩ cw0 rfl rfl rfl hl.1 rfl (Nat.le_of_ble_eq_true rfl) dX5_solve_2) (fun E ce q9 w' H locs hp hB hce hcv hcl => ?_) (fun o w' H locs hp hB => ?_)
  · obtain ⟨he3, hE4, rfl⟩ := hp
    replace hR := ifn (ne_mt hE4 (by decide)) hR
    rw [← hQ]
    exact thrown_on hX hne hB hA3 hce hcv hcl (by obtain ⟨rfl, rfl, rfl, rfl, rfl⟩ := pr5 hR; exact ⟨he3, ((by decide : ∀ x ∈ (["java/lang/IndexOutOfBoundsException"] : List String), x ∈ (["java/lang/IndexOutOfBoundsException"] : List String)) _ hE4), (fun h => h), rfl, rfl⟩) (Nat.le_of_ble_eq_true rfl) (Nat.le_of_ble_eq_true rfl)
  obtain ⟨he3, hx5, rfl, rfl⟩ := hp
  replace hR := ifp he3 hR
  refine W.eq (g2 := F0 m 5 ls [.ref (a (6 + 2 * x5))]) rfl ?_
  refine lv_astore (lv' := [(5, .ref (a (6 + 2 * x5))), (0, .ref (a 0)), (1, .int p0), (2, .int p1), (3, .int p2), (4, .int p3)]) hx hb dX5_solve_5 hl (by decide) rfl (fun ls hl => ?_)
  refine lv_aload_n hx hb dX5_solve_7 rfl (lv_at hl 1 rfl) ?_
  refine lv_iload_n hx hb dX5_solve_8 rfl (lv_at hl 3 rfl) ?_
  obtain ⟨E7, x10, hd6⟩ := ex2 (D_X5_needTable r q f p1)
  replace hR := bnd2_use hd6 hR
  refine CX_after2 hX hB (run_XV (n := 1) (As := [.int p1]) (rest := []) hX hB (k_X5_needTable κ l hst a r q f p1 E7 x10 hd6) ⟨rfl, yk_X5_needTable⟩ wm_2_165 wm_2_167 wp_17 wm_1_1 wm_2_168 ⟨Nat.le_of_ble_eq_true rfl, Nat.le_of_ble_eq_true rfl⟩ ⟨Nat.le_of_ble_eq_true rfl, Nat.le_of_ble_eq_true rfl⟩ cw0 rfl rfl rfl hl.1 rfl (Nat.le_of_ble_eq_true rfl) dX5_solve_9) (fun E ce q9 w' H locs hp hB hce hcv hcl => ?_) (fun o w' H locs hp hB => ?_)
  · obtain ⟨he8, hE9, rfl⟩ := hp
    replace hR := ifn (ne_mt hE9 (by decide)) hR
    rw [← hQ]
    exact thrown_on hX hne hB hA3 hce hcv hcl (by obtain ⟨rfl, rfl, rfl, rfl, rfl⟩ := pr5 hR; exact ⟨he8, ((by decide : ∀ x ∈ (["java/lang/IndexOutOfBoundsException"] : List String), x ∈ (["java/lang/IndexOutOfBoundsException"] : List String)) _ hE9), (fun h => h), rfl, rfl⟩) (Nat.le_of_ble_eq_true rfl) (Nat.le_of_ble_eq_true rfl)
  obtain ⟨he8, hx10, rfl, rfl⟩ := hp
  replace hR := ifp he8 hR
  refine W.eq (g2 := F0 m 12 ls [.ref (a (6 + 2 * x10))]) rfl ?_
  refine lv_astore (lv' := [(6, .ref (a (6 + 2 * x10))), (5, .ref (a (6 + 2 * x5))), (0, .ref (a 0)), (1, .int p0), (2, .int p1), (3, .int p2), (4, .int p3)]) hx hb dX5_solve_12 hl (by decide) rfl (fun ls hl => ?_)
  refine lv_aload_n hx hb dX5_solve_14 rfl (lv_at hl 2 rfl) ?_
  refine lv_iload hx hb dX5_solve_15 (lv_at hl 6 rfl) ?_
  obtain ⟨E12, x15, hd11⟩ := ex2 (D_X5_needTable r q f p3)
  replace hR := bnd2_use hd11 hR
  refine CX_after2 hX hB (run_XV (n := 1) (As := [.int p3]) (rest := []) hX hB (k_X5_needTable κ l hst a r q f p3 E12 x15 hd11) ⟨rfl, yk_X5_needTable⟩ wm_2_165 wm_2_167 wp_17 wm_1_1 wm_2_168 ⟨Nat.le_of_ble_eq_true rfl, Nat.le_of_ble_eq_true rfl⟩ ⟨Nat.le_of_ble_eq_true rfl, Nat.le_of_ble_eq_true rfl⟩ cw0 rfl rfl rfl hl.1 rfl (Nat.le_of_ble_eq_true rfl) dX5_solve_17) (fun E ce q9 w' H locs hp hB hce hcv hcl => ?_) (fun o w' H locs hp hB => ?_)
  · obtain ⟨he13, hE14, rfl⟩ := hp
    replace hR := ifn (ne_mt hE14 (by decide)) hR
    rw [← hQ]
    exact thrown_on hX hne hB hA3 hce hcv hcl (by obtain ⟨rfl, rfl, rfl, rfl, rfl⟩ := pr5 hR; exact ⟨he13, ((by decide : ∀ x ∈ (["java/lang/IndexOutOfBoundsException"] : List String), x ∈ (["java/lang/IndexOutOfBoundsException"] : List String)) _ hE14), (fun h => h), rfl, rfl⟩) (Nat.le_of_ble_eq_true rfl) (Nat.le_of_ble_eq_true rfl)
  obtain ⟨he13, hx15, rfl, rfl⟩ := hp
  replace hR := ifp he13 hR
  refine W.eq (g2 := F0 m 20 ls [.ref (a (6 + 2 * x15))]) rfl ?_
  refine lv_astore (lv' := [(7, .ref (a (6 + 2 * x15))), (6, .ref (a (6 + 2 * x10))), (5, .ref (a (6 + 2 * x5))), (0, .ref (a 0)), (1, .int p0), (2, .int p1), (3, .int p2), (4, .int p3)]) hx hb dX5_solve_20 hl (by decide) rfl (fun ls hl => ?_)
  refine lv_aload hx hb dX5_solve_22 (lv_at hl 1 rfl) ?_
  refine lv_iconst (v := 1) hx hb dX5_solve_24 (by decide) ?_
  refine lv_iload_n hx hb dX5_solve_25 rfl (lv_at hl 6 rfl) ?_
  obtain ⟨x17, hd16⟩ := ex1 (D_X3_hasLine r q f x10 1 p2)
  replace hR := bnd1_use hd16 hR
  refine call_V (n := 2) (As := [.int 1, .int p2]) (rest := []) hX hB (k_X3_hasLine κ l a r q f x10 1 p2 (lt15 hx10) x17 hd16) ⟨rfl, yk_X3_hasLine⟩ wm_3_43 wm_3_44 wm_3_45 wm_1_2 wm_3_46 ⟨Nat.le_of_ble_eq_true rfl, Nat.le_of_ble_eq_true rfl⟩ ⟨Nat.le_of_ble_eq_true rfl, Nat.le_of_ble_eq_true rfl⟩ (cwG (i := x10) (lt15 hx10)) rfl rfl rfl hl.1 rfl (Nat.le_of_ble_eq_true rfl) dX5_solve_26 (fun o w' H locs hp hB => ?_)
  obtain ⟨rfl, bx17, rfl⟩ := hp
  refine W.eq (g2 := F0 m 29 ls [.int x17]) rfl ?_
  obtain ⟨E19, hd18⟩ := ex1 (D_X5_needIndex r q f x17)
  replace hR := bnd1_use hd18 hR
  refine CX_after2 hX hB (run_XS (n := 1) (As := [.int x17]) (rest := []) hX hB (k_X5_needIndex κ l hst a r q f x17 E19 hd18) yk_X5_needIndex wm_3_47 wm_3_48 wm_1_1 wm_3_49 ⟨Nat.le_of_ble_eq_true rfl, Nat.le_of_ble_eq_true rfl⟩ ⟨Nat.le_of_ble_eq_true rfl, Nat.le_of_ble_eq_true rfl⟩ rfl hl.1 rfl (Nat.le_of_ble_eq_true rfl) dX5_solve_29) (fun E ce q9 w' H locs hp hB hce hcv hcl => ?_) (fun o w' H locs hp hB => ?_)
  · obtain ⟨he20, hE21, rfl⟩ := hp
    replace hR := ifn (ne_mt hE21 (by decide)) hR
    rw [← hQ]
    exact thrown_on hX hne hB hA3 hce hcv hcl (by obtain ⟨rfl, rfl, rfl, rfl, rfl⟩ := pr5 hR; exact ⟨he20, ((by decide : ∀ x ∈ (["java/lang/IndexOutOfBoundsException"] : List String), x ∈ (["java/lang/IndexOutOfBoundsException"] : List String)) _ hE21), (fun h => h), rfl, rfl⟩) (Nat.le_of_ble_eq_true rfl) (Nat.le_of_ble_eq_true rfl)
  obtain ⟨he20, rfl, rfl⟩ := hp
  replace hR := ifp he20 hR
  refine W.eq (g2 := F0 m 32 ls []) rfl ?_
  refine lv_aload hx hb dX5_solve_32 (lv_at hl 2 rfl) ?_
  refine gfN hX hB (cwG (i := x5) (lt15 hx5)) rfl in3 1 (by decide) wn_1_51 rfl rfl dX5_solve_34 ?_
  refine lv_aload hx hb dX5_solve_37 (lv_at hl 1 rfl) ?_
  refine gfN hX hB (cwG (i := x10) (lt15 hx10)) rfl in3 1 (by decide) wn_1_51 rfl rfl dX5_solve_39 ?_
  refine lv_icmp_eq (tgt := 50) hx hb dX5_solve_42 (by decide) (fun c22 => ?_) (fun c22 => ?_)
  · replace hR := ifp c22 hR
    refine lv_aload_n hx hb dX5_solve_50 rfl (lv_at hl 3 rfl) ?_
    refine gf hX hB cw0 rfl in5 4 (by decide) wm_1_141 rfl rfl dX5_solve_51 ?_
    refine lv_aload hx hb dX5_solve_54 (lv_at hl 2 rfl) ?_
    obtain ⟨r24, q26, f28, hd23⟩ := ex3 (D_X1_walk r q f x5)
    replace hR := bnd3_use hd23 hR
    refine call_V (n := 1) (As := [.ref (a (6 + 2 * x5))]) (rest := []) hX hB (k_X1_walk κ l a r q f x5 (lt15 hx5) r24 q26 f28 hd23) ⟨rfl, yk_X1_walk⟩ wm_2_72 wm_2_73 wm_2_74 wm_1_4 wm_2_75 ⟨Nat.le_of_ble_eq_true rfl, Nat.le_of_ble_eq_true rfl⟩ ⟨Nat.le_of_ble_eq_true rfl, Nat.le_of_ble_eq_true rfl⟩ cw3 rfl rfl rfl hl.1 rfl (Nat.le_of_ble_eq_true rfl) dX5_solve_56 (fun o w' H locs hp hB => ?_)
    obtain ⟨rfl, ho25, hq27, rfl⟩ := hp
    refine W.eq (g2 := F0 m 59 ls []) rfl ?_
    refine lv_aload_n hx hb dX5_solve_59 rfl (lv_at hl 3 rfl) ?_
    refine gf hX hB cw0 rfl in5 4 (by decide) wm_1_141 rfl rfl dX5_solve_60 ?_
    refine gfN hX hB cw3 rfl in1 3 (by decide) wn_1_105 rfl rfl dX5_solve_63 ?_
    refine lv_if_ne (tgt := 86) hx hb dX5_solve_66 (by decide) (fun c29 => ?_) (fun c29 => ?_)
    · replace hR := ifn c29 hR
      refine lv_aload_n hx hb dX5_solve_86 rfl (lv_at hl 3 rfl) ?_
      obtain ⟨x31, q32, f34, hd30⟩ := ex3 (D_X5_tellRefused r24 q26 f28)
      replace hR := bnd3_use hd30 hR
      refine call_V (n := 0) (As := []) (rest := []) hX hB (k_X5_tellRefused κ l a r24 q26 f28 x31 q32 f34 hd30) ⟨rfl, yk_X5_tellRefused⟩ wm_3_103 wm_3_105 wp_21 wm_1_1 wm_3_106 ⟨Nat.le_of_ble_eq_true rfl, Nat.le_of_ble_eq_true rfl⟩ ⟨Nat.le_of_ble_eq_true rfl, Nat.le_of_ble_eq_true rfl⟩ cw0 rfl rfl rfl hl.1 rfl (Nat.le_of_ble_eq_true rfl) dX5_solve_87 (fun o w' H locs hp hB => ?_)
      obtain ⟨rfl, hq33, rfl⟩ := hp
      refine W.eq (g2 := F0 m 90 ls [.int x31]) rfl ?_
      rw [← hQ]
      exact vx_ret ( end_i hX hB hA3 rfl rfl (by obtain ⟨rfl, rfl, rfl, rfl, rfl⟩ := pr5 hR; exact ⟨rfl, rfl, (fun h => ho25 ((fun h => h) h)), (hq33.trans (hq27.trans rfl)), rfl⟩) (Nat.le_of_ble_eq_true rfl) (Nat.le_of_ble_eq_true rfl) dX5_solve_90)
    · replace hR := ifp c29 hR
      refine lv_aload_n hx hb dX5_solve_69 rfl (lv_at hl 3 rfl) ?_
      refine gf hX hB cw0 rfl in5 5 (by decide) wm_1_142 rfl rfl dX5_solve_70 ?_
      refine lv_aload_n hx hb dX5_solve_73 rfl (lv_at hl 3 rfl) ?_
      refine gf hX hB cw0 rfl in5 4 (by decide) wm_1_141 rfl rfl dX5_solve_74 ?_
      refine lv_aload hx hb dX5_solve_77 (lv_at hl 1 rfl) ?_
      refine lv_iload_n hx hb dX5_solve_79 rfl (lv_at hl 6 rfl) ?_
      obtain ⟨x36, r37, q39, f41, hd35⟩ := ex4 (D_X2_divide r24 q26 f28 x10 p2)
      replace hR := bnd4_use hd35 hR
      refine call_V (n := 3) (As := [.ref (a 3), .ref (a (6 + 2 * x10)), .int p2]) (rest := []) hX hB (k_X2_divide κ l a r24 q26 f28 x10 p2 (lt15 hx10) x36 r37 q39 f41 hd35) ⟨rfl, yk_X2_divide⟩ wm_3_185 wm_3_186 wm_3_187 wm_1_5 wm_3_188 ⟨Nat.le_of_ble_eq_true rfl, Nat.le_of_ble_eq_true rfl⟩ ⟨Nat.le_of_ble_eq_true rfl, Nat.le_of_ble_eq_true rfl⟩ cw4 rfl rfl rfl hl.1 rfl (Nat.le_of_ble_eq_true rfl) dX5_solve_80 (fun o w' H locs hp hB => ?_)
      obtain ⟨rfl, bx36, ho38, hq40, rfl⟩ := hp
      refine W.eq (g2 := F0 m 83 ls [.int x36]) rfl ?_
      refine lv_if_ne (tgt := 91) hx hb dX5_solve_83 (by decide) (fun c42 => ?_) (fun c42 => ?_)
      · replace hR := ifn c42 hR
        refine lv_aload_n hx hb dX5_solve_91 rfl (lv_at hl 3 rfl) ?_
        refine gf hX hB cw0 rfl in5 5 (by decide) wm_1_142 rfl rfl dX5_solve_92 ?_
        refine lv_aload_n hx hb dX5_solve_95 rfl (lv_at hl 3 rfl) ?_
        refine gf hX hB cw0 rfl in5 4 (by decide) wm_1_141 rfl rfl dX5_solve_96 ?_
        obtain ⟨x44, r45, q47, f49, hd43⟩ := ex4 (D_X2_findSolution r37 q39 f41)
        replace hR := bnd4_use hd43 hR
        refine call_V (n := 1) (As := [.ref (a 3)]) (rest := []) hX hB (k_X2_findSolution κ l a r37 q39 f41 x44 r45 q47 f49 hd43) ⟨rfl, yk_X2_findSolution⟩ wm_3_203 wm_3_204 wm_3_205 wm_1_5 wm_3_206 ⟨Nat.le_of_ble_eq_true rfl, Nat.le_of_ble_eq_true rfl⟩ ⟨Nat.le_of_ble_eq_true rfl, Nat.le_of_ble_eq_true rfl⟩ cw4 rfl rfl rfl hl.1 rfl (Nat.le_of_ble_eq_true rfl) dX5_solve_99 (fun o w' H locs hp hB => ?_)
        obtain ⟨rfl, bx44, ho46, hq48, rfl⟩ := hp
        refine W.eq (g2 := F0 m 102 ls [.int x44]) rfl ?_
        refine lv_if_ne (tgt := 110) hx hb dX5_solve_102 (by decide) (fun c50 => ?_) (fun c50 => ?_)
        · replace hR := ifn c50 hR
          refine lv_aload_n hx hb dX5_solve_110 rfl (lv_at hl 3 rfl) ?_
          refine lv_aload_n hx hb dX5_solve_111 rfl (lv_at hl 3 rfl) ?_
          refine gf hX hB cw0 rfl in5 5 (by decide) wm_1_142 rfl rfl dX5_solve_112 ?_
          refine gfN hX hB cw4 rfl in2 3 (by decide) wn_1_127 rfl rfl dX5_solve_115 ?_
          refine lv_aload hx hb dX5_solve_118 (lv_at hl 0 rfl) ?_
          obtain ⟨x52, r53, q55, f57, hd51⟩ := ex4 (D_X5_settleForm r45 q47 f49 14 x15)
          replace hR := bnd4_use hd51 hR
          refine call_V (n := 2) (As := [.ref (a 34), .ref (a (6 + 2 * x15))]) (rest := []) hX hB (k_X5_settleForm κ l a r45 q47 f49 14 x15 (by decide) (lt15 hx15) x52 r53 q55 f57 hd51) ⟨rfl, yk_X5_settleForm⟩ wm_3_153 wm_3_155 wp_22 wm_1_1 wm_3_156 ⟨Nat.le_of_ble_eq_true rfl, Nat.le_of_ble_eq_true rfl⟩ ⟨Nat.le_of_ble_eq_true rfl, Nat.le_of_ble_eq_true rfl⟩ cw0 rfl rfl rfl hl.1 rfl (Nat.le_of_ble_eq_true rfl) dX5_solve_120 (fun o w' H locs hp hB => ?_)
          obtain ⟨rfl, ho54, hq56, rfl⟩ := hp
          refine W.eq (g2 := F0 m 123 ls [.int x52]) rfl ?_
          rw [← hQ]
          exact vx_ret ( end_i hX hB hA3 rfl rfl (by obtain ⟨rfl, rfl, rfl, rfl, rfl⟩ := pr5 hR; exact ⟨rfl, rfl, (fun h => ho54 ((fun h => ho46 ((fun h => ho38 ((fun h => ho25 ((fun h => h) h)) h)) h)) h)), (hq56.trans (hq48.trans (hq40.trans (hq27.trans rfl)))), rfl⟩) (Nat.le_of_ble_eq_true rfl) (Nat.le_of_ble_eq_true rfl) dX5_solve_123)
        · replace hR := ifp c50 hR
          refine lv_aload_n hx hb dX5_solve_105 rfl (lv_at hl 3 rfl) ?_
          obtain ⟨x59, q60, f62, hd58⟩ := ex3 (D_X5_tellRefused r45 q47 f49)
          replace hR := bnd3_use hd58 hR
          refine call_V (n := 0) (As := []) (rest := []) hX hB (k_X5_tellRefused κ l a r45 q47 f49 x59 q60 f62 hd58) ⟨rfl, yk_X5_tellRefused⟩ wm_3_103 wm_3_105 wp_21 wm_1_1 wm_3_106 ⟨Nat.le_of_ble_eq_true rfl, Nat.le_of_ble_eq_true rfl⟩ ⟨Nat.le_of_ble_eq_true rfl, Nat.le_of_ble_eq_true rfl⟩ cw0 rfl rfl rfl hl.1 rfl (Nat.le_of_ble_eq_true rfl) dX5_solve_106 (fun o w' H locs hp hB => ?_)
          obtain ⟨rfl, hq61, rfl⟩ := hp
          refine W.eq (g2 := F0 m 109 ls [.int x59]) rfl ?_
          rw [← hQ]
          exact vx_ret ( end_i hX hB hA3 rfl rfl (by obtain ⟨rfl, rfl, rfl, rfl, rfl⟩ := pr5 hR; exact ⟨rfl, rfl, (fun h => ho46 ((fun h => ho38 ((fun h => ho25 ((fun h => h) h)) h)) h)), (hq61.trans (hq48.trans (hq40.trans (hq27.trans rfl)))), rfl⟩) (Nat.le_of_ble_eq_true rfl) (Nat.le_of_ble_eq_true rfl) dX5_solve_109)
      · replace hR := ifp c42 hR
        refine lv_aload_n hx hb dX5_solve_86 rfl (lv_at hl 3 rfl) ?_
        obtain ⟨x64, q65, f67, hd63⟩ := ex3 (D_X5_tellRefused r37 q39 f41)
        replace hR := bnd3_use hd63 hR
        refine call_V (n := 0) (As := []) (rest := []) hX hB (k_X5_tellRefused κ l a r37 q39 f41 x64 q65 f67 hd63) ⟨rfl, yk_X5_tellRefused⟩ wm_3_103 wm_3_105 wp_21 wm_1_1 wm_3_106 ⟨Nat.le_of_ble_eq_true rfl, Nat.le_of_ble_eq_true rfl⟩ ⟨Nat.le_of_ble_eq_true rfl, Nat.le_of_ble_eq_true rfl⟩ cw0 rfl rfl rfl hl.1 rfl (Nat.le_of_ble_eq_true rfl) dX5_solve_87 (fun o w' H locs hp hB => ?_)
        obtain ⟨rfl, hq66, rfl⟩ := hp
        refine W.eq (g2 := F0 m 90 ls [.int x64]) rfl ?_
        rw [← hQ]
        exact vx_ret ( end_i hX hB hA3 rfl rfl (by obtain ⟨rfl, rfl, rfl, rfl, rfl⟩ := pr5 hR; exact ⟨rfl, rfl, (fun h => ho38 ((fun h => ho25 ((fun h => h) h)) h)), (hq66.trans (hq40.trans (hq27.trans rfl))), rfl⟩) (Nat.le_of_ble_eq_true rfl) (Nat.le_of_ble_eq_true rfl) dX5_solve_90)
  · replace hR := ifn c22 hR
    refine lv_aload_n hx hb dX5_solve_45 rfl (lv_at hl 3 rfl) ?_
    obtain ⟨x69, q70, f72, hd68⟩ := ex3 (D_X5_tellRefused r q f)
    replace hR := bnd3_use hd68 hR
    refine call_V (n := 0) (As := []) (rest := []) hX hB (k_X5_tellRefused κ l a r q f x69 q70 f72 hd68) ⟨rfl, yk_X5_tellRefused⟩ wm_3_103 wm_3_105 wp_21 wm_1_1 wm_3_106 ⟨Nat.le_of_ble_eq_true rfl, Nat.le_of_ble_eq_true rfl⟩ ⟨Nat.le_of_ble_eq_true rfl, Nat.le_of_ble_eq_true rfl⟩ cw0 rfl rfl rfl hl.1 rfl (Nat.le_of_ble_eq_true rfl) dX5_solve_46 (fun o w' H locs hp hB => ?_)
    obtain ⟨rfl, hq71, rfl⟩ := hp
    refine W.eq (g2 := F0 m 49 ls [.int x69]) rfl ?_
    rw [← hQ]
    exact vx_ret ( end_i hX hB hA3 rfl rfl (by obtain ⟨rfl, rfl, rfl, rfl, rfl⟩ := pr5 hR; exact ⟨rfl, rfl, (fun h => h), (hq71.trans rfl), rfl⟩) (Nat.le_of_ble_eq_true rfl) (Nat.le_of_ble_eq_true rfl) dX5_solve_49)
noncomputable def D_X5_shape (r : Nat → Int32) (q : Nat → Int32) (f : Nat → Nat → Int64) (p0 : Int32) (p1 : Int32) : String × Int32 × (Nat → Int32) × (Nat → Int32) × (Nat → Nat → Int64) := bnd2 (D_X5_needTable r q f p0) (fun (E2 : String) (x5 : Nat) => (if E2 = "" then bnd1 (D_X3_countLines r q f x5 p1) (fun (x7 : Int32) => ("", x7, r, q, f)) else (E2, 0, r, q, f)))
theorem D_X5_shape_s {r : Nat → Int32} {q : Nat → Int32} {f : Nat → Nat → Int64} {p0 : Int32} {p1 : Int32} : D_X5_shape r q f p0 p1 = bnd2 (D_X5_needTable r q f p0) (fun (E2 : String) (x5 : Nat) => (if E2 = "" then bnd1 (D_X3_countLines r q f x5 p1) (fun (x7 : Int32) => ("", x7, r, q, f)) else (E2, 0, r, q, f))) := rfl
set_option maxHeartbeats 4000000 in
set_option maxRecDepth 100000 in
theorem k_X5_shape (κ : Kt) (l : Launch) (hst : l.stackTraces = false) (a : Nat → Nat) (r q : Nat → Int32) (f : Nat → Nat → Int64) (p0 : Int32) (p1 : Int32)  (o_E : String) (o_x : Int32) (o_r : Nat → Int32) (o_q : Nat → Int32) (o_f : Nat → Nat → Int64) (hR : D_X5_shape r q f p0 p1 = (o_E, o_x, o_r, o_q, o_f)) : CX κ l yX5_shape cX5_shape 3 (some .int) 7 111 1 6 [.ref (a 0), .int p0, .int p1] (cw κ a r q f) (fun o w' => o_E = "" ∧ o = some (.int o_x) ∧ (okr r → okr o_r) ∧ o_q 4 = q 4 ∧ w' = cw κ a o_r o_q o_f) (fun E w' => o_E = E ∧ o_E ∈ (["java/lang/IndexOutOfBoundsException"] : List String) ∧ (okr r → okr o_r) ∧ o_q 4 = q 4 ∧ w' = cw κ a o_r o_q o_f) := by
  refine CX_begin (by decide) (Nat.le_of_ble_eq_true rfl) ?_
  intro p e s m args below meth c A Q hX hne hA3 hQ hB ls hl
  have hx := hX.1.1
  have hb := hX.1.2.1
  have hl : lv_has ls 3 [(0, .ref (a 0)), (1, .int p0), (2, .int p1)] := hl
  replace hR := (D_X5_shape_s).symm.trans hR
  refine lv_aload_n hx hb dX5_shape_0 rfl (lv_at hl 0 rfl) ?_
  refine lv_iload_n hx hb dX5_shape_1 rfl (lv_at hl 1 rfl) ?_
  obtain ⟨E2, x5, hd1⟩ := ex2 (D_X5_needTable r q f p0)
  replace hR := bnd2_use hd1 hR
  refine CX_after2 hX hB (run_XV (n := 1) (As := [.int p0]) (rest := []) hX hB (k_X5_needTable κ l hst a r q f p0 E2 x5 hd1) ⟨rfl, yk_X5_needTable⟩ wm_2_165 wm_2_167 wp_17 wm_1_1 wm_2_168 ⟨Nat.le_of_ble_eq_true rfl, Nat.le_of_ble_eq_true rfl⟩ ⟨Nat.le_of_ble_eq_true rfl, Nat.le_of_ble_eq_true rfl⟩ cw0 rfl rfl rfl hl.1 rfl (Nat.le_of_ble_eq_true rfl) dX5_shape_2) (fun E ce q9 w' H locs hp hB hce hcv hcl => ?_) (fun o w' H locs hp hB => ?_)
  · obtain ⟨he3, hE4, rfl⟩ := hp
    replace hR := ifn (ne_mt hE4 (by decide)) hR
    rw [← hQ]
    exact thrown_on hX hne hB hA3 hce hcv hcl (by obtain ⟨rfl, rfl, rfl, rfl, rfl⟩ := pr5 hR; exact ⟨he3, ((by decide : ∀ x ∈ (["java/lang/IndexOutOfBoundsException"] : List String), x ∈ (["java/lang/IndexOutOfBoundsException"] : List String)) _ hE4), (fun h => h), rfl, rfl⟩) (Nat.le_of_ble_eq_true rfl) (Nat.le_of_ble_eq_true rfl)
  obtain ⟨he3, hx5, rfl, rfl⟩ := hp
  replace hR := ifp he3 hR
  refine W.eq (g2 := F0 m 5 ls [.ref (a (6 + 2 * x5))]) rfl ?_
  refine lv_iload_n hx hb dX5_shape_5 rfl (lv_at hl 2 rfl) ?_
  obtain ⟨x7, hd6⟩ := ex1 (D_X3_countLines r q f x5 p1)
  replace hR := bnd1_use hd6 hR
  refine call_V (n := 1) (As := [.int p1]) (rest := []) hX hB (k_X3_countLines κ l a r q f x5 p1 (lt15 hx5) x7 hd6) ⟨rfl, yk_X3_countLines⟩ wm_3_131 wm_3_132 wm_3_133 wm_1_2 wm_3_134 ⟨Nat.le_of_ble_eq_true rfl, Nat.le_of_ble_eq_true rfl⟩ ⟨Nat.le_of_ble_eq_true rfl, Nat.le_of_ble_eq_true rfl⟩ (cwG (i := x5) (lt15 hx5)) rfl rfl rfl hl.1 rfl (Nat.le_of_ble_eq_true rfl) dX5_shape_6 (fun o w' H locs hp hB => ?_)
  obtain ⟨rfl, rfl⟩ := hp
  refine W.eq (g2 := F0 m 9 ls [.int x7]) rfl ?_
  rw [← hQ]
  exact vx_ret ( end_i hX hB hA3 rfl rfl (by obtain ⟨rfl, rfl, rfl, rfl, rfl⟩ := pr5 hR; exact ⟨rfl, rfl, (fun h => h), rfl, rfl⟩) (Nat.le_of_ble_eq_true rfl) (Nat.le_of_ble_eq_true rfl) dX5_shape_9)
noncomputable def D_X5_at_j32 (r : Nat → Int32) (q : Nat → Int32) (f : Nat → Nat → Int64) (p1 : Int32) (p2 : Int32) (x5 : Nat) (z0_32 : Int32) : String × Int32 × (Nat → Int32) × (Nat → Int32) × (Nat → Nat → Int64) := bnd1 (D_X5_needIndex r q f z0_32) (fun (E13 : String) => (if E13 = "" then bnd1 (D_X3_get r q f x5 p1 p2) (fun (x17 : Int64) => ("", (x17).toInt32, r, q, f)) else (E13, 0, r, q, f)))
theorem D_X5_at_j32_s {r : Nat → Int32} {q : Nat → Int32} {f : Nat → Nat → Int64} {p1 : Int32} {p2 : Int32} {x5 : Nat} {z0_32 : Int32} : D_X5_at_j32 r q f p1 p2 x5 z0_32 = bnd1 (D_X5_needIndex r q f z0_32) (fun (E13 : String) => (if E13 = "" then bnd1 (D_X3_get r q f x5 p1 p2) (fun (x17 : Int64) => ("", (x17).toInt32, r, q, f)) else (E13, 0, r, q, f))) := rfl
noncomputable def D_X5_at (r : Nat → Int32) (q : Nat → Int32) (f : Nat → Nat → Int64) (p0 : Int32) (p1 : Int32) (p2 : Int32) : String × Int32 × (Nat → Int32) × (Nat → Int32) × (Nat → Nat → Int64) := bnd2 (D_X5_needTable r q f p0) (fun (E2 : String) (x5 : Nat) => (if E2 = "" then bnd1 (D_X3_hasLine r q f x5 0 p1) (fun (x7 : Int32) => (if x7 = 0 then (D_X5_at_j32 r q f p1 p2 x5 0) else bnd1 (D_X3_hasLine r q f x5 1 p2) (fun (x20 : Int32) => (if x20 = 0 then (D_X5_at_j32 r q f p1 p2 x5 0) else (D_X5_at_j32 r q f p1 p2 x5 1))))) else (E2, 0, r, q, f)))
theorem D_X5_at_s {r : Nat → Int32} {q : Nat → Int32} {f : Nat → Nat → Int64} {p0 : Int32} {p1 : Int32} {p2 : Int32} : D_X5_at r q f p0 p1 p2 = bnd2 (D_X5_needTable r q f p0) (fun (E2 : String) (x5 : Nat) => (if E2 = "" then bnd1 (D_X3_hasLine r q f x5 0 p1) (fun (x7 : Int32) => (if x7 = 0 then (D_X5_at_j32 r q f p1 p2 x5 0) else bnd1 (D_X3_hasLine r q f x5 1 p2) (fun (x20 : Int32) => (if x20 = 0 then (D_X5_at_j32 r q f p1 p2 x5 0) else (D_X5_at_j32 r q f p1 p2 x5 1))))) else (E2, 0, r, q, f))) := rfl
set_option maxHeartbeats 4000000 in
set_option maxRecDepth 100000 in
theorem k_X5_at (κ : Kt) (l : Launch) (hst : l.stackTraces = false) (a : Nat → Nat) (r q : Nat → Int32) (f : Nat → Nat → Int64) (p0 : Int32) (p1 : Int32) (p2 : Int32)  (o_E : String) (o_x : Int32) (o_r : Nat → Int32) (o_q : Nat → Int32) (o_f : Nat → Nat → Int64) (hR : D_X5_at r q f p0 p1 p2 = (o_E, o_x, o_r, o_q, o_f)) : CX κ l yX5_at cX5_at 5 (some .int) 7 111 2 12 [.ref (a 0), .int p0, .int p1, .int p2] (cw κ a r q f) (fun o w' => o_E = "" ∧ o = some (.int o_x) ∧ (okr r → okr o_r) ∧ o_q 4 = q 4 ∧ w' = cw κ a o_r o_q o_f) (fun E w' => o_E = E ∧ o_E ∈ (["java/lang/IndexOutOfBoundsException"] : List String) ∧ (okr r → okr o_r) ∧ o_q 4 = q 4 ∧ w' = cw κ a o_r o_q o_f) := by
  refine CX_begin (by decide) (Nat.le_of_ble_eq_true rfl) ?_
  intro p e s m args below meth c A Q hX hne hA3 hQ hB ls hl
  have hx := hX.1.1
  have hb := hX.1.2.1
  have hl : lv_has ls 5 [(0, .ref (a 0)), (1, .int p0), (2, .int p1), (3, .int p2)] := hl
  replace hR := (D_X5_at_s).symm.trans hR
  refine lv_aload_n hx hb dX5_at_0 rfl (lv_at hl 0 rfl) ?_
  refine lv_iload_n hx hb dX5_at_1 rfl (lv_at hl 1 rfl) ?_
  obtain ⟨E2, x5, hd1⟩ := ex2 (D_X5_needTable r q f p0)
  replace hR := bnd2_use hd1 hR
  refine CX_after2 hX hB (run_XV (n := 1) (As := [.int p0]) (rest := []) hX hB (k_X5_needTable κ l hst a r q f p0 E2 x5 hd1) ⟨rfl, yk_X5_needTable⟩ wm_2_165 wm_2_167 wp_17 wm_1_1 wm_2_168 ⟨Nat.le_of_ble_eq_true rfl, Nat.le_of_ble_eq_true rfl⟩ ⟨Nat.le_of_ble_eq_true rfl, Nat.le_of_ble_eq_true rfl⟩ cw0 rfl rfl rfl hl.1 rfl (Nat.le_of_ble_eq_true rfl) dX5_at_2) (fun E ce q9 w' H locs hp hB hce hcv hcl => ?_) (fun o w' H locs hp hB => ?_)
  · obtain ⟨he3, hE4, rfl⟩ := hp
    replace hR := ifn (ne_mt hE4 (by decide)) hR
    rw [← hQ]
    exact thrown_on hX hne hB hA3 hce hcv hcl (by obtain ⟨rfl, rfl, rfl, rfl, rfl⟩ := pr5 hR; exact ⟨he3, ((by decide : ∀ x ∈ (["java/lang/IndexOutOfBoundsException"] : List String), x ∈ (["java/lang/IndexOutOfBoundsException"] : List String)) _ hE4), (fun h => h), rfl, rfl⟩) (Nat.le_of_ble_eq_true rfl) (Nat.le_of_ble_eq_true rfl)
  obtain ⟨he3, hx5, rfl, rfl⟩ := hp
  replace hR := ifp he3 hR
  refine W.eq (g2 := F0 m 5 ls [.ref (a (6 + 2 * x5))]) rfl ?_
  refine lv_astore (lv' := [(4, .ref (a (6 + 2 * x5))), (0, .ref (a 0)), (1, .int p0), (2, .int p1), (3, .int p2)]) hx hb dX5_at_5 hl (by decide) rfl (fun ls hl => ?_)
  refine lv_aload hx hb dX5_at_7 (lv_at hl 0 rfl) ?_
  refine lv_iconst (v := 0) hx hb dX5_at_9 (by decide) ?_
  refine lv_iload_n hx hb dX5_at_10 rfl (lv_at hl 3 rfl) ?_
  obtain ⟨x7, hd6⟩ := ex1 (D_X3_hasLine r q f x5 0 p1)
  replace hR := bnd1_use hd6 hR
  refine call_V (n := 2) (As := [.int 0, .int p1]) (rest := []) hX hB (k_X3_hasLine κ l a r q f x5 0 p1 (lt15 hx5) x7 hd6) ⟨rfl, yk_X3_hasLine⟩ wm_3_43 wm_3_44 wm_3_45 wm_1_2 wm_3_46 ⟨Nat.le_of_ble_eq_true rfl, Nat.le_of_ble_eq_true rfl⟩ ⟨Nat.le_of_ble_eq_true rfl, Nat.le_of_ble_eq_true rfl⟩ (cwG (i := x5) (lt15 hx5)) rfl rfl rfl hl.1 rfl (Nat.le_of_ble_eq_true rfl) dX5_at_11 (fun o w' H locs hp hB => ?_)
  obtain ⟨rfl, bx7, rfl⟩ := hp
  refine W.eq (g2 := F0 m 14 ls [.int x7]) rfl ?_
  have jn32 : ∀ (z0_32 : Int32) (H : Heap) (locs : List Loc), (z0_32 = 0 ∨ z0_32 = 1) → D_X5_at_j32 r q f p1 p2 x5 z0_32 = (o_E, o_x, o_r, o_q, o_f) → Bd κ A s (cw κ a r q f) H locs → ∀ ls : Array Slot, lv_has ls 5 [(4, .ref (a (6 + 2 * x5))), (0, .ref (a 0)), (1, .int p0), (2, .int p1), (3, .int p2)] → W p l e (Rm 7 111 2 12) s m args below meth c H locs 1 6 Q (F0 m 32 ls [.int z0_32]) := by
    intro z0_32 H locs hz0_32 hR hB ls hl
    replace hR := (D_X5_at_j32_s).symm.trans hR
    obtain ⟨E13, hd12⟩ := ex1 (D_X5_needIndex r q f z0_32)
    replace hR := bnd1_use hd12 hR
    refine CX_after2 hX hB (run_XS (n := 1) (As := [.int z0_32]) (rest := []) hX hB (k_X5_needIndex κ l hst a r q f z0_32 E13 hd12) yk_X5_needIndex wm_3_47 wm_3_48 wm_1_1 wm_3_49 ⟨Nat.le_of_ble_eq_true rfl, Nat.le_of_ble_eq_true rfl⟩ ⟨Nat.le_of_ble_eq_true rfl, Nat.le_of_ble_eq_true rfl⟩ rfl hl.1 rfl (Nat.le_of_ble_eq_true rfl) dX5_at_32) (fun E ce q9 w' H locs hp hB hce hcv hcl => ?_) (fun o w' H locs hp hB => ?_)
    · obtain ⟨he14, hE15, rfl⟩ := hp
      replace hR := ifn (ne_mt hE15 (by decide)) hR
      rw [← hQ]
      exact thrown_on hX hne hB hA3 hce hcv hcl (by obtain ⟨rfl, rfl, rfl, rfl, rfl⟩ := pr5 hR; exact ⟨he14, ((by decide : ∀ x ∈ (["java/lang/IndexOutOfBoundsException"] : List String), x ∈ (["java/lang/IndexOutOfBoundsException"] : List String)) _ hE15), (fun h => h), rfl, rfl⟩) (Nat.le_of_ble_eq_true rfl) (Nat.le_of_ble_eq_true rfl)
    obtain ⟨he14, rfl, rfl⟩ := hp
    replace hR := ifp he14 hR
    refine W.eq (g2 := F0 m 35 ls []) rfl ?_
    refine lv_aload hx hb dX5_at_35 (lv_at hl 0 rfl) ?_
    refine lv_iload_n hx hb dX5_at_37 rfl (lv_at hl 3 rfl) ?_
    refine lv_iload_n hx hb dX5_at_38 rfl (lv_at hl 4 rfl) ?_
    obtain ⟨x17, hd16⟩ := ex1 (D_X3_get r q f x5 p1 p2)
    replace hR := bnd1_use hd16 hR
    refine call_V (n := 2) (As := [.int p1, .int p2]) (rest := []) hX hB (k_X3_get κ l a r q f x5 p1 p2 (lt15 hx5) x17 hd16) ⟨rfl, yk_X3_get⟩ wm_2_123 wm_1_187 wm_1_188 wm_1_2 wm_1_189 ⟨Nat.le_of_ble_eq_true rfl, Nat.le_of_ble_eq_true rfl⟩ ⟨Nat.le_of_ble_eq_true rfl, Nat.le_of_ble_eq_true rfl⟩ (cwG (i := x5) (lt15 hx5)) rfl rfl rfl hl.1 rfl (Nat.le_of_ble_eq_true rfl) dX5_at_39 (fun o w' H locs hp hB => ?_)
    obtain ⟨rfl, rfl⟩ := hp
    refine W.eq (g2 := F0 m 42 ls [.long x17]) rfl ?_
    refine lv_l2i hx hb dX5_at_42 rfl ?_
    rw [← hQ]
    exact vx_ret ( end_i hX hB hA3 rfl rfl (by obtain ⟨rfl, rfl, rfl, rfl, rfl⟩ := pr5 hR; exact ⟨rfl, rfl, (fun h => h), rfl, rfl⟩) (Nat.le_of_ble_eq_true rfl) (Nat.le_of_ble_eq_true rfl) dX5_at_43)
  refine lv_if_eq (tgt := 31) hx hb dX5_at_14 (by decide) (fun c18 => ?_) (fun c18 => ?_)
  · replace hR := ifp c18 hR
    refine lv_iconst (v := 0) hx hb dX5_at_31 (by decide) ?_
    exact jn32 0 _ _ (Or.inl rfl) hR hB _ hl
  · replace hR := ifn c18 hR
    refine lv_aload hx hb dX5_at_17 (lv_at hl 0 rfl) ?_
    refine lv_iconst (v := 1) hx hb dX5_at_19 (by decide) ?_
    refine lv_iload_n hx hb dX5_at_20 rfl (lv_at hl 4 rfl) ?_
    obtain ⟨x20, hd19⟩ := ex1 (D_X3_hasLine r q f x5 1 p2)
    replace hR := bnd1_use hd19 hR
    refine call_V (n := 2) (As := [.int 1, .int p2]) (rest := []) hX hB (k_X3_hasLine κ l a r q f x5 1 p2 (lt15 hx5) x20 hd19) ⟨rfl, yk_X3_hasLine⟩ wm_3_43 wm_3_44 wm_3_45 wm_1_2 wm_3_46 ⟨Nat.le_of_ble_eq_true rfl, Nat.le_of_ble_eq_true rfl⟩ ⟨Nat.le_of_ble_eq_true rfl, Nat.le_of_ble_eq_true rfl⟩ (cwG (i := x5) (lt15 hx5)) rfl rfl rfl hl.1 rfl (Nat.le_of_ble_eq_true rfl) dX5_at_21 (fun o w' H locs hp hB => ?_)
    obtain ⟨rfl, bx20, rfl⟩ := hp
    refine W.eq (g2 := F0 m 24 ls [.int x20]) rfl ?_
    refine lv_if_eq (tgt := 31) hx hb dX5_at_24 (by decide) (fun c21 => ?_) (fun c21 => ?_)
    · replace hR := ifp c21 hR
      refine lv_iconst (v := 0) hx hb dX5_at_31 (by decide) ?_
      exact jn32 0 _ _ (Or.inl rfl) hR hB _ hl
    · replace hR := ifn c21 hR
      refine lv_iconst (v := 1) hx hb dX5_at_27 (by decide) ?_
      refine lv_goto (tgt := 32) hx hb dX5_at_28 (by decide) ?_
      exact jn32 1 _ _ (Or.inr rfl) hR hB _ hl
noncomputable def D_X5_isSame (r : Nat → Int32) (q : Nat → Int32) (f : Nat → Nat → Int64) (p0 : Int32) (p1 : Int32) : String × Int32 × (Nat → Int32) × (Nat → Int32) × (Nat → Nat → Int64) := bnd2 (D_X5_needTable r q f p0) (fun (E2 : String) (x5 : Nat) => (if E2 = "" then bnd2 (D_X5_needTable r q f p1) (fun (E7 : String) (x10 : Nat) => (if E7 = "" then bnd1 (D_X3_isLike r q f x5 x10) (fun (x12 : Int32) => ("", x12, r, q, f)) else (E7, 0, r, q, f))) else (E2, 0, r, q, f)))
theorem D_X5_isSame_s {r : Nat → Int32} {q : Nat → Int32} {f : Nat → Nat → Int64} {p0 : Int32} {p1 : Int32} : D_X5_isSame r q f p0 p1 = bnd2 (D_X5_needTable r q f p0) (fun (E2 : String) (x5 : Nat) => (if E2 = "" then bnd2 (D_X5_needTable r q f p1) (fun (E7 : String) (x10 : Nat) => (if E7 = "" then bnd1 (D_X3_isLike r q f x5 x10) (fun (x12 : Int32) => ("", x12, r, q, f)) else (E7, 0, r, q, f))) else (E2, 0, r, q, f))) := rfl
set_option maxHeartbeats 4000000 in
set_option maxRecDepth 100000 in
theorem k_X5_isSame (κ : Kt) (l : Launch) (hst : l.stackTraces = false) (a : Nat → Nat) (r q : Nat → Int32) (f : Nat → Nat → Int64) (p0 : Int32) (p1 : Int32)  (o_E : String) (o_x : Int32) (o_r : Nat → Int32) (o_q : Nat → Int32) (o_f : Nat → Nat → Int64) (hR : D_X5_isSame r q f p0 p1 = (o_E, o_x, o_r, o_q, o_f)) : CX κ l yX5_isSame cX5_isSame 5 (some .boolean) 7 111 2 12 [.ref (a 0), .int p0, .int p1] (cw κ a r q f) (fun o w' => o_E = "" ∧ o = some (.int o_x) ∧ (o_x = 0 ∨ o_x = 1) ∧ (okr r → okr o_r) ∧ o_q 4 = q 4 ∧ w' = cw κ a o_r o_q o_f) (fun E w' => o_E = E ∧ o_E ∈ (["java/lang/IndexOutOfBoundsException"] : List String) ∧ (okr r → okr o_r) ∧ o_q 4 = q 4 ∧ w' = cw κ a o_r o_q o_f) := by
  refine CX_begin (by decide) (Nat.le_of_ble_eq_true rfl) ?_
  intro p e s m args below meth c A Q hX hne hA3 hQ hB ls hl
  have hx := hX.1.1
  have hb := hX.1.2.1
  have hl : lv_has ls 5 [(0, .ref (a 0)), (1, .int p0), (2, .int p1)] := hl
  replace hR := (D_X5_isSame_s).symm.trans hR
  refine lv_aload_n hx hb dX5_isSame_0 rfl (lv_at hl 0 rfl) ?_
  refine lv_iload_n hx hb dX5_isSame_1 rfl (lv_at hl 1 rfl) ?_
  obtain ⟨E2, x5, hd1⟩ := ex2 (D_X5_needTable r q f p0)
  replace hR := bnd2_use hd1 hR
  refine CX_after2 hX hB (run_XV (n := 1) (As := [.int p0]) (rest := []) hX hB (k_X5_needTable κ l hst a r q f p0 E2 x5 hd1) ⟨rfl, yk_X5_needTable⟩ wm_2_165 wm_2_167 wp_17 wm_1_1 wm_2_168 ⟨Nat.le_of_ble_eq_true rfl, Nat.le_of_ble_eq_true rfl⟩ ⟨Nat.le_of_ble_eq_true rfl, Nat.le_of_ble_eq_true rfl⟩ cw0 rfl rfl rfl hl.1 rfl (Nat.le_of_ble_eq_true rfl) dX5_isSame_2) (fun E ce q9 w' H locs hp hB hce hcv hcl => ?_) (fun o w' H locs hp hB => ?_)
  · obtain ⟨he3, hE4, rfl⟩ := hp
    replace hR := ifn (ne_mt hE4 (by decide)) hR
    rw [← hQ]
    exact thrown_on hX hne hB hA3 hce hcv hcl (by obtain ⟨rfl, rfl, rfl, rfl, rfl⟩ := pr5 hR; exact ⟨he3, ((by decide : ∀ x ∈ (["java/lang/IndexOutOfBoundsException"] : List String), x ∈ (["java/lang/IndexOutOfBoundsException"] : List String)) _ hE4), (fun h => h), rfl, rfl⟩) (Nat.le_of_ble_eq_true rfl) (Nat.le_of_ble_eq_true rfl)
  obtain ⟨he3, hx5, rfl, rfl⟩ := hp
  replace hR := ifp he3 hR
  refine W.eq (g2 := F0 m 5 ls [.ref (a (6 + 2 * x5))]) rfl ?_
  refine lv_astore_n (lv' := [(3, .ref (a (6 + 2 * x5))), (0, .ref (a 0)), (1, .int p0), (2, .int p1)]) hx hb dX5_isSame_5 rfl hl (by decide) rfl (fun ls hl => ?_)
  refine lv_aload_n hx hb dX5_isSame_6 rfl (lv_at hl 1 rfl) ?_
  refine lv_iload_n hx hb dX5_isSame_7 rfl (lv_at hl 3 rfl) ?_
  obtain ⟨E7, x10, hd6⟩ := ex2 (D_X5_needTable r q f p1)
  replace hR := bnd2_use hd6 hR
  refine CX_after2 hX hB (run_XV (n := 1) (As := [.int p1]) (rest := []) hX hB (k_X5_needTable κ l hst a r q f p1 E7 x10 hd6) ⟨rfl, yk_X5_needTable⟩ wm_2_165 wm_2_167 wp_17 wm_1_1 wm_2_168 ⟨Nat.le_of_ble_eq_true rfl, Nat.le_of_ble_eq_true rfl⟩ ⟨Nat.le_of_ble_eq_true rfl, Nat.le_of_ble_eq_true rfl⟩ cw0 rfl rfl rfl hl.1 rfl (Nat.le_of_ble_eq_true rfl) dX5_isSame_8) (fun E ce q9 w' H locs hp hB hce hcv hcl => ?_) (fun o w' H locs hp hB => ?_)
  · obtain ⟨he8, hE9, rfl⟩ := hp
    replace hR := ifn (ne_mt hE9 (by decide)) hR
    rw [← hQ]
    exact thrown_on hX hne hB hA3 hce hcv hcl (by obtain ⟨rfl, rfl, rfl, rfl, rfl⟩ := pr5 hR; exact ⟨he8, ((by decide : ∀ x ∈ (["java/lang/IndexOutOfBoundsException"] : List String), x ∈ (["java/lang/IndexOutOfBoundsException"] : List String)) _ hE9), (fun h => h), rfl, rfl⟩) (Nat.le_of_ble_eq_true rfl) (Nat.le_of_ble_eq_true rfl)
  obtain ⟨he8, hx10, rfl, rfl⟩ := hp
  replace hR := ifp he8 hR
  refine W.eq (g2 := F0 m 11 ls [.ref (a (6 + 2 * x10))]) rfl ?_
  refine lv_astore (lv' := [(4, .ref (a (6 + 2 * x10))), (3, .ref (a (6 + 2 * x5))), (0, .ref (a 0)), (1, .int p0), (2, .int p1)]) hx hb dX5_isSame_11 hl (by decide) rfl (fun ls hl => ?_)
  refine lv_aload_n hx hb dX5_isSame_13 rfl (lv_at hl 1 rfl) ?_
  refine lv_aload hx hb dX5_isSame_14 (lv_at hl 0 rfl) ?_
  obtain ⟨x12, hd11⟩ := ex1 (D_X3_isLike r q f x5 x10)
  replace hR := bnd1_use hd11 hR
  refine call_V (n := 1) (As := [.ref (a (6 + 2 * x10))]) (rest := []) hX hB (k_X3_isLike κ l a r q f x5 x10 (lt15 hx5) (lt15 hx10) x12 hd11) ⟨rfl, yk_X3_isLike⟩ wm_2_44 wm_2_45 wm_2_46 wm_1_2 wm_2_47 ⟨Nat.le_of_ble_eq_true rfl, Nat.le_of_ble_eq_true rfl⟩ ⟨Nat.le_of_ble_eq_true rfl, Nat.le_of_ble_eq_true rfl⟩ (cwG (i := x5) (lt15 hx5)) rfl rfl rfl hl.1 rfl (Nat.le_of_ble_eq_true rfl) dX5_isSame_16 (fun o w' H locs hp hB => ?_)
  obtain ⟨rfl, bx12, rfl⟩ := hp
  refine W.eq (g2 := F0 m 19 ls [.int x12]) rfl ?_
  rw [← hQ]
  exact vx_ret ( end_i hX hB hA3 rfl (nbz (by assumption)) (by obtain ⟨rfl, rfl, rfl, rfl, rfl⟩ := pr5 hR; exact ⟨rfl, rfl, (by assumption), (fun h => h), rfl, rfl⟩) (Nat.le_of_ble_eq_true rfl) (Nat.le_of_ble_eq_true rfl) dX5_isSame_19)
noncomputable def D_X5_determinant_j88 (r20 : Nat → Int32) (q22 : Nat → Int32) (f24 : Nat → Nat → Int64) (z0_88 : Int32) : String × Int32 × (Nat → Int32) × (Nat → Int32) × (Nat → Nat → Int64) := bnd1 (D_X5_needState r20 q22 f24 z0_88) (fun (E27 : String) => (if E27 = "" then bnd1 (D_X4_findDeterminant r20 q22 f24) (fun (x31 : Int64) => ("", (x31).toInt32, r20, q22, f24)) else (E27, 0, r20, q22, f24)))
theorem D_X5_determinant_j88_s {r20 : Nat → Int32} {q22 : Nat → Int32} {f24 : Nat → Nat → Int64} {z0_88 : Int32} : D_X5_determinant_j88 r20 q22 f24 z0_88 = bnd1 (D_X5_needState r20 q22 f24 z0_88) (fun (E27 : String) => (if E27 = "" then bnd1 (D_X4_findDeterminant r20 q22 f24) (fun (x31 : Int64) => ("", (x31).toInt32, r20, q22, f24)) else (E27, 0, r20, q22, f24))) := rfl
noncomputable def D_X5_determinant_j39 (r : Nat → Int32) (q : Nat → Int32) (f : Nat → Nat → Int64) (p1 : Int32) (x5 : Nat) (z0_39 : Int32) : String × Int32 × (Nat → Int32) × (Nat → Int32) × (Nat → Nat → Int64) := bnd1 (D_X5_needState r q f z0_39) (fun (E14 : String) => (if E14 = "" then (if p1 = 0 then bnd1 (D_X0_byFirstRow r q f x5) (fun (x36 : Int64) => ("", (x36).toInt32, r, q, f)) else (if p1 = 1 then bnd1 (D_X0_bySequences_4 r q f x5 0 0) (fun (x34 : Int64) => ("", (x34).toInt32, r, q, f)) else bnd3 (D_X4_walk r q f x5) (fun (r20 : Nat → Int32) (q22 : Nat → Int32) (f24 : Nat → Nat → Int64) => (if (q22 0) = 0 then (D_X5_determinant_j88 r20 q22 f24 1) else (D_X5_determinant_j88 r20 q22 f24 0))))) else (E14, 0, r, q, f)))
theorem D_X5_determinant_j39_s {r : Nat → Int32} {q : Nat → Int32} {f : Nat → Nat → Int64} {p1 : Int32} {x5 : Nat} {z0_39 : Int32} : D_X5_determinant_j39 r q f p1 x5 z0_39 = bnd1 (D_X5_needState r q f z0_39) (fun (E14 : String) => (if E14 = "" then (if p1 = 0 then bnd1 (D_X0_byFirstRow r q f x5) (fun (x36 : Int64) => ("", (x36).toInt32, r, q, f)) else (if p1 = 1 then bnd1 (D_X0_bySequences_4 r q f x5 0 0) (fun (x34 : Int64) => ("", (x34).toInt32, r, q, f)) else bnd3 (D_X4_walk r q f x5) (fun (r20 : Nat → Int32) (q22 : Nat → Int32) (f24 : Nat → Nat → Int64) => (if (q22 0) = 0 then (D_X5_determinant_j88 r20 q22 f24 1) else (D_X5_determinant_j88 r20 q22 f24 0))))) else (E14, 0, r, q, f))) := rfl
noncomputable def D_X5_determinant_j20 (r : Nat → Int32) (q : Nat → Int32) (f : Nat → Nat → Int64) (p1 : Int32) (x5 : Nat) (z0_20 : Int32) : String × Int32 × (Nat → Int32) × (Nat → Int32) × (Nat → Nat → Int64) := bnd1 (D_X5_needArgument r q f z0_20) (fun (E9 : String) => (if E9 = "" then (if (r (2 * x5)) = (r (2 * x5 + 1)) then (D_X5_determinant_j39 r q f p1 x5 1) else (D_X5_determinant_j39 r q f p1 x5 0)) else (E9, 0, r, q, f)))
theorem D_X5_determinant_j20_s {r : Nat → Int32} {q : Nat → Int32} {f : Nat → Nat → Int64} {p1 : Int32} {x5 : Nat} {z0_20 : Int32} : D_X5_determinant_j20 r q f p1 x5 z0_20 = bnd1 (D_X5_needArgument r q f z0_20) (fun (E9 : String) => (if E9 = "" then (if (r (2 * x5)) = (r (2 * x5 + 1)) then (D_X5_determinant_j39 r q f p1 x5 1) else (D_X5_determinant_j39 r q f p1 x5 0)) else (E9, 0, r, q, f))) := rfl
noncomputable def D_X5_determinant (r : Nat → Int32) (q : Nat → Int32) (f : Nat → Nat → Int64) (p0 : Int32) (p1 : Int32) : String × Int32 × (Nat → Int32) × (Nat → Int32) × (Nat → Nat → Int64) := bnd2 (D_X5_needTable r q f p0) (fun (E2 : String) (x5 : Nat) => (if E2 = "" then (if p1 < 0 then (D_X5_determinant_j20 r q f p1 x5 0) else (if 2 < p1 then (D_X5_determinant_j20 r q f p1 x5 0) else (D_X5_determinant_j20 r q f p1 x5 1))) else (E2, 0, r, q, f)))
theorem D_X5_determinant_s {r : Nat → Int32} {q : Nat → Int32} {f : Nat → Nat → Int64} {p0 : Int32} {p1 : Int32} : D_X5_determinant r q f p0 p1 = bnd2 (D_X5_needTable r q f p0) (fun (E2 : String) (x5 : Nat) => (if E2 = "" then (if p1 < 0 then (D_X5_determinant_j20 r q f p1 x5 0) else (if 2 < p1 then (D_X5_determinant_j20 r q f p1 x5 0) else (D_X5_determinant_j20 r q f p1 x5 1))) else (E2, 0, r, q, f))) := rfl
set_option maxHeartbeats 4000000 in
set_option maxRecDepth 100000 in
theorem k_X5_determinant (κ : Kt) (l : Launch) (hst : l.stackTraces = false) (a : Nat → Nat) (r q : Nat → Int32) (f : Nat → Nat → Int64) (p0 : Int32) (p1 : Int32)  (o_E : String) (o_x : Int32) (o_r : Nat → Int32) (o_q : Nat → Int32) (o_f : Nat → Nat → Int64) (hR : D_X5_determinant r q f p0 p1 = (o_E, o_x, o_r, o_q, o_f)) : CX κ l yX5_determinant cX5_determinant 4 (some .int) 7 188 4 24 [.ref (a 0), .int p0, .int p1] (cw κ a r q f) (fun o w' => o_E = "" ∧ o = some (.int o_x) ∧ (okr r → okr o_r) ∧ o_q 4 = q 4 ∧ w' = cw κ a o_r o_q o_f) (fun E w' => o_E = E ∧ o_E ∈ (["java/lang/IndexOutOfBoundsException", "java/lang/IllegalArgumentException", "java/lang/IllegalStateException"] : List String) ∧ (okr r → okr o_r) ∧ o_q 4 = q 4 ∧ w' = cw κ a o_r o_q o_f) := by
  refine CX_begin (by decide) (Nat.le_of_ble_eq_true rfl) ?_
  intro p e s m args below meth c A Q hX hne hA3 hQ hB ls hl
  have hx := hX.1.1
  have hb := hX.1.2.1
  have hl : lv_has ls 4 [(0, .ref (a 0)), (1, .int p0), (2, .int p1)] := hl
  replace hR := (D_X5_determinant_s).symm.trans hR
  refine lv_aload_n hx hb dX5_determinant_0 rfl (lv_at hl 0 rfl) ?_
  refine lv_iload_n hx hb dX5_determinant_1 rfl (lv_at hl 1 rfl) ?_
  obtain ⟨E2, x5, hd1⟩ := ex2 (D_X5_needTable r q f p0)
  replace hR := bnd2_use hd1 hR
  refine CX_after2 hX hB (run_XV (n := 1) (As := [.int p0]) (rest := []) hX hB (k_X5_needTable κ l hst a r q f p0 E2 x5 hd1) ⟨rfl, yk_X5_needTable⟩ wm_2_165 wm_2_167 wp_17 wm_1_1 wm_2_168 ⟨Nat.le_of_ble_eq_true rfl, Nat.le_of_ble_eq_true rfl⟩ ⟨Nat.le_of_ble_eq_true rfl, Nat.le_of_ble_eq_true rfl⟩ cw0 rfl rfl rfl hl.1 rfl (Nat.le_of_ble_eq_true rfl) dX5_determinant_2) (fun E ce q9 w' H locs hp hB hce hcv hcl => ?_) (fun o w' H locs hp hB => ?_)
  · obtain ⟨he3, hE4, rfl⟩ := hp
    replace hR := ifn (ne_mt hE4 (by decide)) hR
    rw [← hQ]
    exact thrown_on hX hne hB hA3 hce hcv hcl (by obtain ⟨rfl, rfl, rfl, rfl, rfl⟩ := pr5 hR; exact ⟨he3, ((by decide : ∀ x ∈ (["java/lang/IndexOutOfBoundsException"] : List String), x ∈ (["java/lang/IndexOutOfBoundsException", "java/lang/IllegalArgumentException", "java/lang/IllegalStateException"] : List String)) _ hE4), (fun h => h), rfl, rfl⟩) (Nat.le_of_ble_eq_true rfl) (Nat.le_of_ble_eq_true rfl)
  obtain ⟨he3, hx5, rfl, rfl⟩ := hp
  replace hR := ifp he3 hR
  refine W.eq (g2 := F0 m 5 ls [.ref (a (6 + 2 * x5))]) rfl ?_
  refine lv_astore_n (lv' := [(3, .ref (a (6 + 2 * x5))), (0, .ref (a 0)), (1, .int p0), (2, .int p1)]) hx hb dX5_determinant_5 rfl hl (by decide) rfl (fun ls hl => ?_)
  refine lv_iload_n hx hb dX5_determinant_6 rfl (lv_at hl 3 rfl) ?_
  have jn20 : ∀ (z0_20 : Int32) (H : Heap) (locs : List Loc), (z0_20 = 0 ∨ z0_20 = 1) → D_X5_determinant_j20 r q f p1 x5 z0_20 = (o_E, o_x, o_r, o_q, o_f) → Bd κ A s (cw κ a r q f) H locs → ∀ ls : Array Slot, lv_has ls 4 [(3, .ref (a (6 + 2 * x5))), (0, .ref (a 0)), (1, .int p0), (2, .int p1)] → W p l e (Rm 7 188 4 24) s m args below meth c H locs 1 6 Q (F0 m 20 ls [.int z0_20]) := by
    intro z0_20 H locs hz0_20 hR hB ls hl
    replace hR := (D_X5_determinant_j20_s).symm.trans hR
    obtain ⟨E9, hd8⟩ := ex1 (D_X5_needArgument r q f z0_20)
    replace hR := bnd1_use hd8 hR
    refine CX_after2 hX hB (run_XS (n := 1) (As := [.int z0_20]) (rest := []) hX hB (k_X5_needArgument κ l hst a r q f z0_20 E9 hd8) yk_X5_needArgument wm_3_0 wm_3_1 wm_1_1 wm_3_2 ⟨Nat.le_of_ble_eq_true rfl, Nat.le_of_ble_eq_true rfl⟩ ⟨Nat.le_of_ble_eq_true rfl, Nat.le_of_ble_eq_true rfl⟩ rfl hl.1 rfl (Nat.le_of_ble_eq_true rfl) dX5_determinant_20) (fun E ce q9 w' H locs hp hB hce hcv hcl => ?_) (fun o w' H locs hp hB => ?_)
    · obtain ⟨he10, hE11, rfl⟩ := hp
      replace hR := ifn (ne_mt hE11 (by decide)) hR
      rw [← hQ]
      exact thrown_on hX hne hB hA3 hce hcv hcl (by obtain ⟨rfl, rfl, rfl, rfl, rfl⟩ := pr5 hR; exact ⟨he10, ((by decide : ∀ x ∈ (["java/lang/IllegalArgumentException"] : List String), x ∈ (["java/lang/IndexOutOfBoundsException", "java/lang/IllegalArgumentException", "java/lang/IllegalStateException"] : List String)) _ hE11), (fun h => h), rfl, rfl⟩) (Nat.le_of_ble_eq_true rfl) (Nat.le_of_ble_eq_true rfl)
    obtain ⟨he10, rfl, rfl⟩ := hp
    replace hR := ifp he10 hR
    refine W.eq (g2 := F0 m 23 ls []) rfl ?_
    refine lv_aload_n hx hb dX5_determinant_23 rfl (lv_at hl 0 rfl) ?_
    refine gfN hX hB (cwG (i := x5) (lt15 hx5)) rfl in3 1 (by decide) wn_1_51 rfl rfl dX5_determinant_24 ?_
    refine lv_aload_n hx hb dX5_determinant_27 rfl (lv_at hl 0 rfl) ?_
    refine gfN hX hB (cwG (i := x5) (lt15 hx5)) rfl in3 2 (by decide) wn_1_57 rfl rfl dX5_determinant_28 ?_
    have jn39 : ∀ (z0_39 : Int32) (H : Heap) (locs : List Loc), (z0_39 = 0 ∨ z0_39 = 1) → D_X5_determinant_j39 r q f p1 x5 z0_39 = (o_E, o_x, o_r, o_q, o_f) → Bd κ A s (cw κ a r q f) H locs → ∀ ls : Array Slot, lv_has ls 4 [(3, .ref (a (6 + 2 * x5))), (0, .ref (a 0)), (1, .int p0), (2, .int p1)] → W p l e (Rm 7 188 4 24) s m args below meth c H locs 2 12 Q (F0 m 39 ls [.int z0_39]) := by
      intro z0_39 H locs hz0_39 hR hB ls hl
      replace hR := (D_X5_determinant_j39_s).symm.trans hR
      obtain ⟨E14, hd13⟩ := ex1 (D_X5_needState r q f z0_39)
      replace hR := bnd1_use hd13 hR
      refine CX_after2 hX hB (run_XS (n := 1) (As := [.int z0_39]) (rest := []) hX hB (k_X5_needState κ l hst a r q f z0_39 E14 hd13) yk_X5_needState wm_5_26 wm_5_27 wm_1_1 wm_5_28 ⟨Nat.le_of_ble_eq_true rfl, Nat.le_of_ble_eq_true rfl⟩ ⟨Nat.le_of_ble_eq_true rfl, Nat.le_of_ble_eq_true rfl⟩ rfl hl.1 rfl (Nat.le_of_ble_eq_true rfl) dX5_determinant_39) (fun E ce q9 w' H locs hp hB hce hcv hcl => ?_) (fun o w' H locs hp hB => ?_)
      · obtain ⟨he15, hE16, rfl⟩ := hp
        replace hR := ifn (ne_mt hE16 (by decide)) hR
        rw [← hQ]
        exact thrown_on hX hne hB hA3 hce hcv hcl (by obtain ⟨rfl, rfl, rfl, rfl, rfl⟩ := pr5 hR; exact ⟨he15, ((by decide : ∀ x ∈ (["java/lang/IllegalStateException"] : List String), x ∈ (["java/lang/IndexOutOfBoundsException", "java/lang/IllegalArgumentException", "java/lang/IllegalStateException"] : List String)) _ hE16), (fun h => h), rfl, rfl⟩) (Nat.le_of_ble_eq_true rfl) (Nat.le_of_ble_eq_true rfl)
      obtain ⟨he15, rfl, rfl⟩ := hp
      replace hR := ifp he15 hR
      refine W.eq (g2 := F0 m 42 ls []) rfl ?_
      refine lv_iload_n hx hb dX5_determinant_42 rfl (lv_at hl 3 rfl) ?_
      refine lv_if_ne (tgt := 52) hx hb dX5_determinant_43 (by decide) (fun c17 => ?_) (fun c17 => ?_)
      · replace hR := ifn c17 hR
        refine lv_iload_n hx hb dX5_determinant_52 rfl (lv_at hl 3 rfl) ?_
        refine lv_iconst (v := 1) hx hb dX5_determinant_53 (by decide) ?_
        refine lv_icmp_ne (tgt := 65) hx hb dX5_determinant_54 (by decide) (fun c18 => ?_) (fun c18 => ?_)
        · replace hR := ifn c18 hR
          refine lv_aload_n hx hb dX5_determinant_65 rfl (lv_at hl 1 rfl) ?_
          refine gf hX hB cw0 rfl in5 3 (by decide) wm_1_140 rfl rfl dX5_determinant_66 ?_
          refine lv_aload_n hx hb dX5_determinant_69 rfl (lv_at hl 0 rfl) ?_
          obtain ⟨r20, q22, f24, hd19⟩ := ex3 (D_X4_walk r q f x5)
          replace hR := bnd3_use hd19 hR
          refine call_V (n := 1) (As := [.ref (a (6 + 2 * x5))]) (rest := []) hX hB (k_X4_walk κ l a r q f x5 (lt15 hx5) r20 q22 f24 hd19) ⟨rfl, yk_X4_walk⟩ wm_1_200 wm_1_201 wm_1_202 wm_1_3 wm_1_203 ⟨Nat.le_of_ble_eq_true rfl, Nat.le_of_ble_eq_true rfl⟩ ⟨Nat.le_of_ble_eq_true rfl, Nat.le_of_ble_eq_true rfl⟩ cw2 rfl rfl rfl hl.1 rfl (Nat.le_of_ble_eq_true rfl) dX5_determinant_70 (fun o w' H locs hp hB => ?_)
          obtain ⟨rfl, ho21, hq23, rfl⟩ := hp
          refine W.eq (g2 := F0 m 73 ls []) rfl ?_
          refine lv_aload_n hx hb dX5_determinant_73 rfl (lv_at hl 1 rfl) ?_
          refine gf hX hB cw0 rfl in5 3 (by decide) wm_1_140 rfl rfl dX5_determinant_74 ?_
          refine gfN hX hB cw2 rfl in4 2 (by decide) wn_1_79 rfl rfl dX5_determinant_77 ?_
          have jn88 : ∀ (z0_88 : Int32) (H : Heap) (locs : List Loc), (z0_88 = 0 ∨ z0_88 = 1) → D_X5_determinant_j88 r20 q22 f24 z0_88 = (o_E, o_x, o_r, o_q, o_f) → Bd κ A s (cw κ a r20 q22 f24) H locs → ∀ ls : Array Slot, lv_has ls 4 [(3, .ref (a (6 + 2 * x5))), (0, .ref (a 0)), (1, .int p0), (2, .int p1)] → W p l e (Rm 7 188 4 24) s m args below meth c H locs 3 18 Q (F0 m 88 ls [.int z0_88]) := by
            intro z0_88 H locs hz0_88 hR hB ls hl
            replace hR := (D_X5_determinant_j88_s).symm.trans hR
            obtain ⟨E27, hd26⟩ := ex1 (D_X5_needState r20 q22 f24 z0_88)
            replace hR := bnd1_use hd26 hR
            refine CX_after2 hX hB (run_XS (n := 1) (As := [.int z0_88]) (rest := []) hX hB (k_X5_needState κ l hst a r20 q22 f24 z0_88 E27 hd26) yk_X5_needState wm_5_26 wm_5_27 wm_1_1 wm_5_28 ⟨Nat.le_of_ble_eq_true rfl, Nat.le_of_ble_eq_true rfl⟩ ⟨Nat.le_of_ble_eq_true rfl, Nat.le_of_ble_eq_true rfl⟩ rfl hl.1 rfl (Nat.le_of_ble_eq_true rfl) dX5_determinant_88) (fun E ce q9 w' H locs hp hB hce hcv hcl => ?_) (fun o w' H locs hp hB => ?_)
            · obtain ⟨he28, hE29, rfl⟩ := hp
              replace hR := ifn (ne_mt hE29 (by decide)) hR
              rw [← hQ]
              exact thrown_on hX hne hB hA3 hce hcv hcl (by obtain ⟨rfl, rfl, rfl, rfl, rfl⟩ := pr5 hR; exact ⟨he28, ((by decide : ∀ x ∈ (["java/lang/IllegalStateException"] : List String), x ∈ (["java/lang/IndexOutOfBoundsException", "java/lang/IllegalArgumentException", "java/lang/IllegalStateException"] : List String)) _ hE29), (fun h => ho21 ((fun h => h) h)), (hq23.trans rfl), rfl⟩) (Nat.le_of_ble_eq_true rfl) (Nat.le_of_ble_eq_true rfl)
            obtain ⟨he28, rfl, rfl⟩ := hp
            replace hR := ifp he28 hR
            refine W.eq (g2 := F0 m 91 ls []) rfl ?_
            refine lv_aload_n hx hb dX5_determinant_91 rfl (lv_at hl 1 rfl) ?_
            refine gf hX hB cw0 rfl in5 3 (by decide) wm_1_140 rfl rfl dX5_determinant_92 ?_
            obtain ⟨x31, hd30⟩ := ex1 (D_X4_findDeterminant r20 q22 f24)
            replace hR := bnd1_use hd30 hR
            refine call_V (n := 0) (As := []) (rest := []) hX hB (k_X4_findDeterminant κ l a r20 q22 f24 x31 hd30) ⟨rfl, yk_X4_findDeterminant⟩ wm_2_67 wm_2_68 wm_2_69 wm_1_3 wm_2_70 ⟨Nat.le_of_ble_eq_true rfl, Nat.le_of_ble_eq_true rfl⟩ ⟨Nat.le_of_ble_eq_true rfl, Nat.le_of_ble_eq_true rfl⟩ cw2 rfl rfl rfl hl.1 rfl (Nat.le_of_ble_eq_true rfl) dX5_determinant_95 (fun o w' H locs hp hB => ?_)
            obtain ⟨rfl, rfl⟩ := hp
            refine W.eq (g2 := F0 m 98 ls [.long x31]) rfl ?_
            refine lv_l2i hx hb dX5_determinant_98 rfl ?_
            rw [← hQ]
            exact vx_ret ( end_i hX hB hA3 rfl rfl (by obtain ⟨rfl, rfl, rfl, rfl, rfl⟩ := pr5 hR; exact ⟨rfl, rfl, (fun h => ho21 ((fun h => h) h)), (hq23.trans rfl), rfl⟩) (Nat.le_of_ble_eq_true rfl) (Nat.le_of_ble_eq_true rfl) dX5_determinant_99)
          refine lv_if_ne (tgt := 87) hx hb dX5_determinant_80 (by decide) (fun c32 => ?_) (fun c32 => ?_)
          · replace hR := ifn c32 hR
            refine lv_iconst (v := 0) hx hb dX5_determinant_87 (by decide) ?_
            exact jn88 0 _ _ (Or.inl rfl) hR hB _ hl
          · replace hR := ifp c32 hR
            refine lv_iconst (v := 1) hx hb dX5_determinant_83 (by decide) ?_
            refine lv_goto (tgt := 88) hx hb dX5_determinant_84 (by decide) ?_
            exact jn88 1 _ _ (Or.inr rfl) hR hB _ hl
        · replace hR := ifp c18 hR
          refine lv_aload_n hx hb dX5_determinant_57 rfl (lv_at hl 0 rfl) ?_
          refine lv_iconst (v := 0) hx hb dX5_determinant_58 (by decide) ?_
          refine lv_iconst (v := 0) hx hb dX5_determinant_59 (by decide) ?_
          obtain ⟨x34, hd33⟩ := ex1 (D_X0_bySequences_4 r q f x5 0 0)
          replace hR := bnd1_use hd33 hR
          refine call_S (n := 3) (As := [.ref (a (6 + 2 * x5)), .int 0, .int 0]) (rest := []) hX hB (k_X0_bySequences_4 κ l a r q f x5 0 0 (lt15 hx5) (by decide) x34 hd33) yk_X0_bySequences wm_1_190 wm_1_191 wm_1_29 wm_1_192 ⟨Nat.le_of_ble_eq_true rfl, Nat.le_of_ble_eq_true rfl⟩ ⟨Nat.le_of_ble_eq_true rfl, Nat.le_of_ble_eq_true rfl⟩ rfl hl.1 rfl (Nat.le_of_ble_eq_true rfl) dX5_determinant_60 (fun o w' H locs hp hB => ?_)
          obtain ⟨rfl, rfl⟩ := hp
          refine W.eq (g2 := F0 m 63 ls [.long x34]) rfl ?_
          refine lv_l2i hx hb dX5_determinant_63 rfl ?_
          rw [← hQ]
          exact vx_ret ( end_i hX hB hA3 rfl rfl (by obtain ⟨rfl, rfl, rfl, rfl, rfl⟩ := pr5 hR; exact ⟨rfl, rfl, (fun h => h), rfl, rfl⟩) (Nat.le_of_ble_eq_true rfl) (Nat.le_of_ble_eq_true rfl) dX5_determinant_64)
      · replace hR := ifp c17 hR
        refine lv_aload_n hx hb dX5_determinant_46 rfl (lv_at hl 0 rfl) ?_
        obtain ⟨x36, hd35⟩ := ex1 (D_X0_byFirstRow r q f x5)
        replace hR := bnd1_use hd35 hR
        refine call_S (n := 1) (As := [.ref (a (6 + 2 * x5))]) (rest := []) hX hB (k_X0_byFirstRow κ l a r q f x5 (lt15 hx5) x36 hd35) yk_X0_byFirstRow wm_1_180 wm_1_181 wm_1_29 wm_1_182 ⟨Nat.le_of_ble_eq_true rfl, Nat.le_of_ble_eq_true rfl⟩ ⟨Nat.le_of_ble_eq_true rfl, Nat.le_of_ble_eq_true rfl⟩ rfl hl.1 rfl (Nat.le_of_ble_eq_true rfl) dX5_determinant_47 (fun o w' H locs hp hB => ?_)
        obtain ⟨rfl, rfl⟩ := hp
        refine W.eq (g2 := F0 m 50 ls [.long x36]) rfl ?_
        refine lv_l2i hx hb dX5_determinant_50 rfl ?_
        rw [← hQ]
        exact vx_ret ( end_i hX hB hA3 rfl rfl (by obtain ⟨rfl, rfl, rfl, rfl, rfl⟩ := pr5 hR; exact ⟨rfl, rfl, (fun h => h), rfl, rfl⟩) (Nat.le_of_ble_eq_true rfl) (Nat.le_of_ble_eq_true rfl) dX5_determinant_51)
    refine lv_icmp_ne (tgt := 38) hx hb dX5_determinant_31 (by decide) (fun c37 => ?_) (fun c37 => ?_)
    · replace hR := ifn c37 hR
      refine lv_iconst (v := 0) hx hb dX5_determinant_38 (by decide) ?_
      exact jn39 0 _ _ (Or.inl rfl) hR hB _ hl
    · replace hR := ifp c37 hR
      refine lv_iconst (v := 1) hx hb dX5_determinant_34 (by decide) ?_
      refine lv_goto (tgt := 39) hx hb dX5_determinant_35 (by decide) ?_
      exact jn39 1 _ _ (Or.inr rfl) hR hB _ hl
  refine lv_if_lt (tgt := 19) hx hb dX5_determinant_7 (by decide) (fun c38 => ?_) (fun c38 => ?_)
  · replace hR := ifp c38 hR
    refine lv_iconst (v := 0) hx hb dX5_determinant_19 (by decide) ?_
    exact jn20 0 _ _ (Or.inl rfl) hR hB _ hl
  · replace hR := ifn c38 hR
    refine lv_iload_n hx hb dX5_determinant_10 rfl (lv_at hl 3 rfl) ?_
    refine lv_iconst (v := 2) hx hb dX5_determinant_11 (by decide) ?_
    refine lv_icmp_gt (tgt := 19) hx hb dX5_determinant_12 (by decide) (fun c39 => ?_) (fun c39 => ?_)
    · replace hR := ifp c39 hR
      refine lv_iconst (v := 0) hx hb dX5_determinant_19 (by decide) ?_
      exact jn20 0 _ _ (Or.inl rfl) hR hB _ hl
    · replace hR := ifn c39 hR
      refine lv_iconst (v := 1) hx hb dX5_determinant_15 (by decide) ?_
      refine lv_goto (tgt := 20) hx hb dX5_determinant_16 (by decide) ?_
      exact jn20 1 _ _ (Or.inr rfl) hR hB _ hl
noncomputable def D_X5_minor_j63 (r : Nat → Int32) (q : Nat → Int32) (f : Nat → Nat → Int64) (p1 : Int32) (p2 : Int32) (x5 : Nat) (z0_63 : Int32) : String × Int32 × (Nat → Int32) × (Nat → Int32) × (Nat → Nat → Int64) := bnd1 (D_X5_needArgument r q f z0_63) (fun (E18 : String) => (if E18 = "" then bnd1 (D_X0_ofRest_4 r q f x5 p1 p2 0) (fun (x22 : Int64) => ("", (x22).toInt32, r, q, f)) else (E18, 0, r, q, f)))
theorem D_X5_minor_j63_s {r : Nat → Int32} {q : Nat → Int32} {f : Nat → Nat → Int64} {p1 : Int32} {p2 : Int32} {x5 : Nat} {z0_63 : Int32} : D_X5_minor_j63 r q f p1 p2 x5 z0_63 = bnd1 (D_X5_needArgument r q f z0_63) (fun (E18 : String) => (if E18 = "" then bnd1 (D_X0_ofRest_4 r q f x5 p1 p2 0) (fun (x22 : Int64) => ("", (x22).toInt32, r, q, f)) else (E18, 0, r, q, f))) := rfl
noncomputable def D_X5_minor_j44 (r : Nat → Int32) (q : Nat → Int32) (f : Nat → Nat → Int64) (p1 : Int32) (p2 : Int32) (x5 : Nat) (z0_44 : Int32) : String × Int32 × (Nat → Int32) × (Nat → Int32) × (Nat → Nat → Int64) := bnd1 (D_X5_needArgument r q f z0_44) (fun (E11 : String) => (if E11 = "" then nm ((bcE p1) : Int32) (fun (x14 : Int32) => nm ((bcE p2) : Int32) (fun (x15 : Int32) => (if x14 = x15 then (D_X5_minor_j63 r q f p1 p2 x5 1) else (D_X5_minor_j63 r q f p1 p2 x5 0)))) else (E11, 0, r, q, f)))
theorem D_X5_minor_j44_s {r : Nat → Int32} {q : Nat → Int32} {f : Nat → Nat → Int64} {p1 : Int32} {p2 : Int32} {x5 : Nat} {z0_44 : Int32} : D_X5_minor_j44 r q f p1 p2 x5 z0_44 = bnd1 (D_X5_needArgument r q f z0_44) (fun (E11 : String) => (if E11 = "" then nm ((bcE p1) : Int32) (fun (x14 : Int32) => nm ((bcE p2) : Int32) (fun (x15 : Int32) => (if x14 = x15 then (D_X5_minor_j63 r q f p1 p2 x5 1) else (D_X5_minor_j63 r q f p1 p2 x5 0)))) else (E11, 0, r, q, f))) := rfl
noncomputable def D_X5_minor (r : Nat → Int32) (q : Nat → Int32) (f : Nat → Nat → Int64) (p0 : Int32) (p1 : Int32) (p2 : Int32) : String × Int32 × (Nat → Int32) × (Nat → Int32) × (Nat → Nat → Int64) := bnd2 (D_X5_needTable r q f p0) (fun (E2 : String) (x5 : Nat) => (if E2 = "" then (if p1 < 1 then (D_X5_minor_j44 r q f p1 p2 x5 0) else (if (1 <<< ((r (2 * x5)) &&& 31)) ≤ p1 then (D_X5_minor_j44 r q f p1 p2 x5 0) else (if p2 < 1 then (D_X5_minor_j44 r q f p1 p2 x5 0) else (if (1 <<< ((r (2 * x5 + 1)) &&& 31)) ≤ p2 then (D_X5_minor_j44 r q f p1 p2 x5 0) else (D_X5_minor_j44 r q f p1 p2 x5 1))))) else (E2, 0, r, q, f)))
theorem D_X5_minor_s {r : Nat → Int32} {q : Nat → Int32} {f : Nat → Nat → Int64} {p0 : Int32} {p1 : Int32} {p2 : Int32} : D_X5_minor r q f p0 p1 p2 = bnd2 (D_X5_needTable r q f p0) (fun (E2 : String) (x5 : Nat) => (if E2 = "" then (if p1 < 1 then (D_X5_minor_j44 r q f p1 p2 x5 0) else (if (1 <<< ((r (2 * x5)) &&& 31)) ≤ p1 then (D_X5_minor_j44 r q f p1 p2 x5 0) else (if p2 < 1 then (D_X5_minor_j44 r q f p1 p2 x5 0) else (if (1 <<< ((r (2 * x5 + 1)) &&& 31)) ≤ p2 then (D_X5_minor_j44 r q f p1 p2 x5 0) else (D_X5_minor_j44 r q f p1 p2 x5 1))))) else (E2, 0, r, q, f))) := rfl
set_option maxHeartbeats 4000000 in
set_option maxRecDepth 100000 in
theorem k_X5_minor (κ : Kt) (l : Launch) (hst : l.stackTraces = false) (a : Nat → Nat) (r q : Nat → Int32) (f : Nat → Nat → Int64) (p0 : Int32) (p1 : Int32) (p2 : Int32)  (o_E : String) (o_x : Int32) (o_r : Nat → Int32) (o_q : Nat → Int32) (o_f : Nat → Nat → Int64) (hR : D_X5_minor r q f p0 p1 p2 = (o_E, o_x, o_r, o_q, o_f)) : CX κ l yX5_minor cX5_minor 5 (some .int) 7 145 3 18 [.ref (a 0), .int p0, .int p1, .int p2] (cw κ a r q f) (fun o w' => o_E = "" ∧ o = some (.int o_x) ∧ (okr r → okr o_r) ∧ o_q 4 = q 4 ∧ w' = cw κ a o_r o_q o_f) (fun E w' => o_E = E ∧ o_E ∈ (["java/lang/IndexOutOfBoundsException", "java/lang/IllegalArgumentException"] : List String) ∧ (okr r → okr o_r) ∧ o_q 4 = q 4 ∧ w' = cw κ a o_r o_q o_f) := by
  refine CX_begin (by decide) (Nat.le_of_ble_eq_true rfl) ?_
  intro p e s m args below meth c A Q hX hne hA3 hQ hB ls hl
  have hx := hX.1.1
  have hb := hX.1.2.1
  have hl : lv_has ls 5 [(0, .ref (a 0)), (1, .int p0), (2, .int p1), (3, .int p2)] := hl
  replace hR := (D_X5_minor_s).symm.trans hR
  refine lv_aload_n hx hb dX5_minor_0 rfl (lv_at hl 0 rfl) ?_
  refine lv_iload_n hx hb dX5_minor_1 rfl (lv_at hl 1 rfl) ?_
  obtain ⟨E2, x5, hd1⟩ := ex2 (D_X5_needTable r q f p0)
  replace hR := bnd2_use hd1 hR
  refine CX_after2 hX hB (run_XV (n := 1) (As := [.int p0]) (rest := []) hX hB (k_X5_needTable κ l hst a r q f p0 E2 x5 hd1) ⟨rfl, yk_X5_needTable⟩ wm_2_165 wm_2_167 wp_17 wm_1_1 wm_2_168 ⟨Nat.le_of_ble_eq_true rfl, Nat.le_of_ble_eq_true rfl⟩ ⟨Nat.le_of_ble_eq_true rfl, Nat.le_of_ble_eq_true rfl⟩ cw0 rfl rfl rfl hl.1 rfl (Nat.le_of_ble_eq_true rfl) dX5_minor_2) (fun E ce q9 w' H locs hp hB hce hcv hcl => ?_) (fun o w' H locs hp hB => ?_)
  · obtain ⟨he3, hE4, rfl⟩ := hp
    replace hR := ifn (ne_mt hE4 (by decide)) hR
    rw [← hQ]
    exact thrown_on hX hne hB hA3 hce hcv hcl (by obtain ⟨rfl, rfl, rfl, rfl, rfl⟩ := pr5 hR; exact ⟨he3, ((by decide : ∀ x ∈ (["java/lang/IndexOutOfBoundsException"] : List String), x ∈ (["java/lang/IndexOutOfBoundsException", "java/lang/IllegalArgumentException"] : List String)) _ hE4), (fun h => h), rfl, rfl⟩) (Nat.le_of_ble_eq_true rfl) (Nat.le_of_ble_eq_true rfl)
  obtain ⟨he3, hx5, rfl, rfl⟩ := hp
  replace hR := ifp he3 hR
  refine W.eq (g2 := F0 m 5 ls [.ref (a (6 + 2 * x5))]) rfl ?_
  refine lv_astore (lv' := [(4, .ref (a (6 + 2 * x5))), (0, .ref (a 0)), (1, .int p0), (2, .int p1), (3, .int p2)]) hx hb dX5_minor_5 hl (by decide) rfl (fun ls hl => ?_)
  refine lv_iload_n hx hb dX5_minor_7 rfl (lv_at hl 3 rfl) ?_
  refine lv_iconst (v := 1) hx hb dX5_minor_8 (by decide) ?_
  have jn44 : ∀ (z0_44 : Int32) (H : Heap) (locs : List Loc), (z0_44 = 0 ∨ z0_44 = 1) → D_X5_minor_j44 r q f p1 p2 x5 z0_44 = (o_E, o_x, o_r, o_q, o_f) → Bd κ A s (cw κ a r q f) H locs → ∀ ls : Array Slot, lv_has ls 5 [(4, .ref (a (6 + 2 * x5))), (0, .ref (a 0)), (1, .int p0), (2, .int p1), (3, .int p2)] → W p l e (Rm 7 145 3 18) s m args below meth c H locs 1 6 Q (F0 m 44 ls [.int z0_44]) := by
    intro z0_44 H locs hz0_44 hR hB ls hl
    replace hR := (D_X5_minor_j44_s).symm.trans hR
    obtain ⟨E11, hd10⟩ := ex1 (D_X5_needArgument r q f z0_44)
    replace hR := bnd1_use hd10 hR
    refine CX_after2 hX hB (run_XS (n := 1) (As := [.int z0_44]) (rest := []) hX hB (k_X5_needArgument κ l hst a r q f z0_44 E11 hd10) yk_X5_needArgument wm_3_0 wm_3_1 wm_1_1 wm_3_2 ⟨Nat.le_of_ble_eq_true rfl, Nat.le_of_ble_eq_true rfl⟩ ⟨Nat.le_of_ble_eq_true rfl, Nat.le_of_ble_eq_true rfl⟩ rfl hl.1 rfl (Nat.le_of_ble_eq_true rfl) dX5_minor_44) (fun E ce q9 w' H locs hp hB hce hcv hcl => ?_) (fun o w' H locs hp hB => ?_)
    · obtain ⟨he12, hE13, rfl⟩ := hp
      replace hR := ifn (ne_mt hE13 (by decide)) hR
      rw [← hQ]
      exact thrown_on hX hne hB hA3 hce hcv hcl (by obtain ⟨rfl, rfl, rfl, rfl, rfl⟩ := pr5 hR; exact ⟨he12, ((by decide : ∀ x ∈ (["java/lang/IllegalArgumentException"] : List String), x ∈ (["java/lang/IndexOutOfBoundsException", "java/lang/IllegalArgumentException"] : List String)) _ hE13), (fun h => h), rfl, rfl⟩) (Nat.le_of_ble_eq_true rfl) (Nat.le_of_ble_eq_true rfl)
    obtain ⟨he12, rfl, rfl⟩ := hp
    replace hR := ifp he12 hR
    refine W.eq (g2 := F0 m 47 ls []) rfl ?_
    refine lv_iload_n hx hb dX5_minor_47 rfl (lv_at hl 3 rfl) ?_
    refine call_S (n := 1) (As := [.int p1]) (rest := []) hX hB (k_J6_bitCount_0f7a4 κ l (cw κ a r q f) p1 ) yk_J6_bitCount_0f7a4 wm_5_52 wm_1_195 wm_1_26 wm_1_196 ⟨Nat.le_of_ble_eq_true rfl, Nat.le_of_ble_eq_true rfl⟩ ⟨Nat.le_of_ble_eq_true rfl, Nat.le_of_ble_eq_true rfl⟩ rfl hl.1 rfl (Nat.le_of_ble_eq_true rfl) dX5_minor_48 (fun o w' H locs hp hB => ?_)
    obtain ⟨x14, rfl, ex14, hw9⟩ := hp
    replace hR := nm_use ex14 hR
    rw [hw9] at hB
    refine W.eq (g2 := F0 m 51 ls [.int x14]) rfl ?_
    refine lv_iload_n hx hb dX5_minor_51 rfl (lv_at hl 4 rfl) ?_
    refine call_S (n := 1) (As := [.int p2]) (rest := [.int x14]) hX hB (k_J6_bitCount_0f7a4 κ l (cw κ a r q f) p2 ) yk_J6_bitCount_0f7a4 wm_5_52 wm_1_195 wm_1_26 wm_1_196 ⟨Nat.le_of_ble_eq_true rfl, Nat.le_of_ble_eq_true rfl⟩ ⟨Nat.le_of_ble_eq_true rfl, Nat.le_of_ble_eq_true rfl⟩ rfl hl.1 rfl (Nat.le_of_ble_eq_true rfl) dX5_minor_52 (fun o w' H locs hp hB => ?_)
    obtain ⟨x15, rfl, ex15, hw9⟩ := hp
    replace hR := nm_use ex15 hR
    rw [hw9] at hB
    refine W.eq (g2 := F0 m 55 ls [.int x15, .int x14]) rfl ?_
    have jn63 : ∀ (z0_63 : Int32) (H : Heap) (locs : List Loc), (z0_63 = 0 ∨ z0_63 = 1) → D_X5_minor_j63 r q f p1 p2 x5 z0_63 = (o_E, o_x, o_r, o_q, o_f) → Bd κ A s (cw κ a r q f) H locs → ∀ ls : Array Slot, lv_has ls 5 [(4, .ref (a (6 + 2 * x5))), (0, .ref (a 0)), (1, .int p0), (2, .int p1), (3, .int p2)] → W p l e (Rm 7 145 3 18) s m args below meth c H locs 2 12 Q (F0 m 63 ls [.int z0_63]) := by
      intro z0_63 H locs hz0_63 hR hB ls hl
      replace hR := (D_X5_minor_j63_s).symm.trans hR
      obtain ⟨E18, hd17⟩ := ex1 (D_X5_needArgument r q f z0_63)
      replace hR := bnd1_use hd17 hR
      refine CX_after2 hX hB (run_XS (n := 1) (As := [.int z0_63]) (rest := []) hX hB (k_X5_needArgument κ l hst a r q f z0_63 E18 hd17) yk_X5_needArgument wm_3_0 wm_3_1 wm_1_1 wm_3_2 ⟨Nat.le_of_ble_eq_true rfl, Nat.le_of_ble_eq_true rfl⟩ ⟨Nat.le_of_ble_eq_true rfl, Nat.le_of_ble_eq_true rfl⟩ rfl hl.1 rfl (Nat.le_of_ble_eq_true rfl) dX5_minor_63) (fun E ce q9 w' H locs hp hB hce hcv hcl => ?_) (fun o w' H locs hp hB => ?_)
      · obtain ⟨he19, hE20, rfl⟩ := hp
        replace hR := ifn (ne_mt hE20 (by decide)) hR
        rw [← hQ]
        exact thrown_on hX hne hB hA3 hce hcv hcl (by obtain ⟨rfl, rfl, rfl, rfl, rfl⟩ := pr5 hR; exact ⟨he19, ((by decide : ∀ x ∈ (["java/lang/IllegalArgumentException"] : List String), x ∈ (["java/lang/IndexOutOfBoundsException", "java/lang/IllegalArgumentException"] : List String)) _ hE20), (fun h => h), rfl, rfl⟩) (Nat.le_of_ble_eq_true rfl) (Nat.le_of_ble_eq_true rfl)
      obtain ⟨he19, rfl, rfl⟩ := hp
      replace hR := ifp he19 hR
      refine W.eq (g2 := F0 m 66 ls []) rfl ?_
      refine lv_aload hx hb dX5_minor_66 (lv_at hl 0 rfl) ?_
      refine lv_iload_n hx hb dX5_minor_68 rfl (lv_at hl 3 rfl) ?_
      refine lv_iload_n hx hb dX5_minor_69 rfl (lv_at hl 4 rfl) ?_
      refine lv_iconst (v := 0) hx hb dX5_minor_70 (by decide) ?_
      obtain ⟨x22, hd21⟩ := ex1 (D_X0_ofRest_4 r q f x5 p1 p2 0)
      replace hR := bnd1_use hd21 hR
      refine call_S (n := 4) (As := [.ref (a (6 + 2 * x5)), .int p1, .int p2, .int 0]) (rest := []) hX hB (k_X0_ofRest_4 κ l a r q f x5 p1 p2 0 (lt15 hx5) (by decide) x22 hd21) yk_X0_ofRest wm_5_53 wm_1_184 wm_1_29 wm_1_185 ⟨Nat.le_of_ble_eq_true rfl, Nat.le_of_ble_eq_true rfl⟩ ⟨Nat.le_of_ble_eq_true rfl, Nat.le_of_ble_eq_true rfl⟩ rfl hl.1 rfl (Nat.le_of_ble_eq_true rfl) dX5_minor_71 (fun o w' H locs hp hB => ?_)
      obtain ⟨rfl, rfl⟩ := hp
      refine W.eq (g2 := F0 m 74 ls [.long x22]) rfl ?_
      refine lv_l2i hx hb dX5_minor_74 rfl ?_
      rw [← hQ]
      exact vx_ret ( end_i hX hB hA3 rfl rfl (by obtain ⟨rfl, rfl, rfl, rfl, rfl⟩ := pr5 hR; exact ⟨rfl, rfl, (fun h => h), rfl, rfl⟩) (Nat.le_of_ble_eq_true rfl) (Nat.le_of_ble_eq_true rfl) dX5_minor_75)
    refine lv_icmp_ne (tgt := 62) hx hb dX5_minor_55 (by decide) (fun c23 => ?_) (fun c23 => ?_)
    · replace hR := ifn c23 hR
      refine lv_iconst (v := 0) hx hb dX5_minor_62 (by decide) ?_
      exact jn63 0 _ _ (Or.inl rfl) hR hB _ hl
    · replace hR := ifp c23 hR
      refine lv_iconst (v := 1) hx hb dX5_minor_58 (by decide) ?_
      refine lv_goto (tgt := 63) hx hb dX5_minor_59 (by decide) ?_
      exact jn63 1 _ _ (Or.inr rfl) hR hB _ hl
  refine lv_icmp_lt (tgt := 43) hx hb dX5_minor_9 (by decide) (fun c24 => ?_) (fun c24 => ?_)
  · replace hR := ifp c24 hR
    refine lv_iconst (v := 0) hx hb dX5_minor_43 (by decide) ?_
    exact jn44 0 _ _ (Or.inl rfl) hR hB _ hl
  · replace hR := ifn c24 hR
    refine lv_iload_n hx hb dX5_minor_12 rfl (lv_at hl 3 rfl) ?_
    refine lv_iconst (v := 1) hx hb dX5_minor_13 (by decide) ?_
    refine lv_aload hx hb dX5_minor_14 (lv_at hl 0 rfl) ?_
    refine gfN hX hB (cwG (i := x5) (lt15 hx5)) rfl in3 1 (by decide) wn_1_51 rfl rfl dX5_minor_16 ?_
    refine lv_ishl hx hb dX5_minor_19 ?_
    refine lv_icmp_ge (tgt := 43) hx hb dX5_minor_20 (by decide) (fun c25 => ?_) (fun c25 => ?_)
    · replace hR := ifp c25 hR
      refine lv_iconst (v := 0) hx hb dX5_minor_43 (by decide) ?_
      exact jn44 0 _ _ (Or.inl rfl) hR hB _ hl
    · replace hR := ifn c25 hR
      refine lv_iload_n hx hb dX5_minor_23 rfl (lv_at hl 4 rfl) ?_
      refine lv_iconst (v := 1) hx hb dX5_minor_24 (by decide) ?_
      refine lv_icmp_lt (tgt := 43) hx hb dX5_minor_25 (by decide) (fun c26 => ?_) (fun c26 => ?_)
      · replace hR := ifp c26 hR
        refine lv_iconst (v := 0) hx hb dX5_minor_43 (by decide) ?_
        exact jn44 0 _ _ (Or.inl rfl) hR hB _ hl
      · replace hR := ifn c26 hR
        refine lv_iload_n hx hb dX5_minor_28 rfl (lv_at hl 4 rfl) ?_
        refine lv_iconst (v := 1) hx hb dX5_minor_29 (by decide) ?_
        refine lv_aload hx hb dX5_minor_30 (lv_at hl 0 rfl) ?_
        refine gfN hX hB (cwG (i := x5) (lt15 hx5)) rfl in3 2 (by decide) wn_1_57 rfl rfl dX5_minor_32 ?_
        refine lv_ishl hx hb dX5_minor_35 ?_
        refine lv_icmp_ge (tgt := 43) hx hb dX5_minor_36 (by decide) (fun c27 => ?_) (fun c27 => ?_)
        · replace hR := ifp c27 hR
          refine lv_iconst (v := 0) hx hb dX5_minor_43 (by decide) ?_
          exact jn44 0 _ _ (Or.inl rfl) hR hB _ hl
        · replace hR := ifn c27 hR
          refine lv_iconst (v := 1) hx hb dX5_minor_39 (by decide) ?_
          refine lv_goto (tgt := 44) hx hb dX5_minor_40 (by decide) ?_
          exact jn44 1 _ _ (Or.inr rfl) hR hB _ hl
noncomputable def D_X5_divisor_j31 (r : Nat → Int32) (q : Nat → Int32) (f : Nat → Nat → Int64) (p1 : Int32) (x5 : Nat) (z0_31 : Int32) : String × Int32 × (Nat → Int32) × (Nat → Int32) × (Nat → Nat → Int64) := bnd1 (D_X5_needArgument r q f z0_31) (fun (E10 : String) => (if E10 = "" then bnd1 (D_X0_findDivisor r q f x5 p1) (fun (x14 : Int64) => ("", (x14).toInt32, r, q, f)) else (E10, 0, r, q, f)))
theorem D_X5_divisor_j31_s {r : Nat → Int32} {q : Nat → Int32} {f : Nat → Nat → Int64} {p1 : Int32} {x5 : Nat} {z0_31 : Int32} : D_X5_divisor_j31 r q f p1 x5 z0_31 = bnd1 (D_X5_needArgument r q f z0_31) (fun (E10 : String) => (if E10 = "" then bnd1 (D_X0_findDivisor r q f x5 p1) (fun (x14 : Int64) => ("", (x14).toInt32, r, q, f)) else (E10, 0, r, q, f))) := rfl
noncomputable def D_X5_divisor (r : Nat → Int32) (q : Nat → Int32) (f : Nat → Nat → Int64) (p0 : Int32) (p1 : Int32) : String × Int32 × (Nat → Int32) × (Nat → Int32) × (Nat → Nat → Int64) := bnd2 (D_X5_needTable r q f p0) (fun (E2 : String) (x5 : Nat) => (if E2 = "" then (if p1 < 0 then (D_X5_divisor_j31 r q f p1 x5 0) else (if (r (2 * x5)) < p1 then (D_X5_divisor_j31 r q f p1 x5 0) else (if (r (2 * x5 + 1)) < p1 then (D_X5_divisor_j31 r q f p1 x5 0) else (D_X5_divisor_j31 r q f p1 x5 1)))) else (E2, 0, r, q, f)))
theorem D_X5_divisor_s {r : Nat → Int32} {q : Nat → Int32} {f : Nat → Nat → Int64} {p0 : Int32} {p1 : Int32} : D_X5_divisor r q f p0 p1 = bnd2 (D_X5_needTable r q f p0) (fun (E2 : String) (x5 : Nat) => (if E2 = "" then (if p1 < 0 then (D_X5_divisor_j31 r q f p1 x5 0) else (if (r (2 * x5)) < p1 then (D_X5_divisor_j31 r q f p1 x5 0) else (if (r (2 * x5 + 1)) < p1 then (D_X5_divisor_j31 r q f p1 x5 0) else (D_X5_divisor_j31 r q f p1 x5 1)))) else (E2, 0, r, q, f))) := rfl
set_option maxHeartbeats 4000000 in
set_option maxRecDepth 100000 in
theorem k_X5_divisor (κ : Kt) (l : Launch) (hst : l.stackTraces = false) (a : Nat → Nat) (r q : Nat → Int32) (f : Nat → Nat → Int64) (p0 : Int32) (p1 : Int32)  (o_E : String) (o_x : Int32) (o_r : Nat → Int32) (o_q : Nat → Int32) (o_f : Nat → Nat → Int64) (hR : D_X5_divisor r q f p0 p1 = (o_E, o_x, o_r, o_q, o_f)) : CX κ l yX5_divisor cX5_divisor 4 (some .int) 7 171 2 12 [.ref (a 0), .int p0, .int p1] (cw κ a r q f) (fun o w' => o_E = "" ∧ o = some (.int o_x) ∧ (okr r → okr o_r) ∧ o_q 4 = q 4 ∧ w' = cw κ a o_r o_q o_f) (fun E w' => o_E = E ∧ o_E ∈ (["java/lang/IndexOutOfBoundsException", "java/lang/IllegalArgumentException"] : List String) ∧ (okr r → okr o_r) ∧ o_q 4 = q 4 ∧ w' = cw κ a o_r o_q o_f) := by
  refine CX_begin (by decide) (Nat.le_of_ble_eq_true rfl) ?_
  intro p e s m args below meth c A Q hX hne hA3 hQ hB ls hl
  have hx := hX.1.1
  have hb := hX.1.2.1
  have hl : lv_has ls 4 [(0, .ref (a 0)), (1, .int p0), (2, .int p1)] := hl
  replace hR := (D_X5_divisor_s).symm.trans hR
  refine lv_aload_n hx hb dX5_divisor_0 rfl (lv_at hl 0 rfl) ?_
  refine lv_iload_n hx hb dX5_divisor_1 rfl (lv_at hl 1 rfl) ?_
  obtain ⟨E2, x5, hd1⟩ := ex2 (D_X5_needTable r q f p0)
  replace hR := bnd2_use hd1 hR
  refine CX_after2 hX hB (run_XV (n := 1) (As := [.int p0]) (rest := []) hX hB (k_X5_needTable κ l hst a r q f p0 E2 x5 hd1) ⟨rfl, yk_X5_needTable⟩ wm_2_165 wm_2_167 wp_17 wm_1_1 wm_2_168 ⟨Nat.le_of_ble_eq_true rfl, Nat.le_of_ble_eq_true rfl⟩ ⟨Nat.le_of_ble_eq_true rfl, Nat.le_of_ble_eq_true rfl⟩ cw0 rfl rfl rfl hl.1 rfl (Nat.le_of_ble_eq_true rfl) dX5_divisor_2) (fun E ce q9 w' H locs hp hB hce hcv hcl => ?_) (fun o w' H locs hp hB => ?_)
  · obtain ⟨he3, hE4, rfl⟩ := hp
    replace hR := ifn (ne_mt hE4 (by decide)) hR
    rw [← hQ]
    exact thrown_on hX hne hB hA3 hce hcv hcl (by obtain ⟨rfl, rfl, rfl, rfl, rfl⟩ := pr5 hR; exact ⟨he3, ((by decide : ∀ x ∈ (["java/lang/IndexOutOfBoundsException"] : List String), x ∈ (["java/lang/IndexOutOfBoundsException", "java/lang/IllegalArgumentException"] : List String)) _ hE4), (fun h => h), rfl, rfl⟩) (Nat.le_of_ble_eq_true rfl) (Nat.le_of_ble_eq_true rfl)
  obtain ⟨he3, hx5, rfl, rfl⟩ := hp
  replace hR := ifp he3 hR
  refine W.eq (g2 := F0 m 5 ls [.ref (a (6 + 2 * x5))]) rfl ?_
  refine lv_astore_n (lv' := [(3, .ref (a (6 + 2 * x5))), (0, .ref (a 0)), (1, .int p0), (2, .int p1)]) hx hb dX5_divisor_5 rfl hl (by decide) rfl (fun ls hl => ?_)
  refine lv_iload_n hx hb dX5_divisor_6 rfl (lv_at hl 3 rfl) ?_
  have jn31 : ∀ (z0_31 : Int32) (H : Heap) (locs : List Loc), (z0_31 = 0 ∨ z0_31 = 1) → D_X5_divisor_j31 r q f p1 x5 z0_31 = (o_E, o_x, o_r, o_q, o_f) → Bd κ A s (cw κ a r q f) H locs → ∀ ls : Array Slot, lv_has ls 4 [(3, .ref (a (6 + 2 * x5))), (0, .ref (a 0)), (1, .int p0), (2, .int p1)] → W p l e (Rm 7 171 2 12) s m args below meth c H locs 1 6 Q (F0 m 31 ls [.int z0_31]) := by
    intro z0_31 H locs hz0_31 hR hB ls hl
    replace hR := (D_X5_divisor_j31_s).symm.trans hR
    obtain ⟨E10, hd9⟩ := ex1 (D_X5_needArgument r q f z0_31)
    replace hR := bnd1_use hd9 hR
    refine CX_after2 hX hB (run_XS (n := 1) (As := [.int z0_31]) (rest := []) hX hB (k_X5_needArgument κ l hst a r q f z0_31 E10 hd9) yk_X5_needArgument wm_3_0 wm_3_1 wm_1_1 wm_3_2 ⟨Nat.le_of_ble_eq_true rfl, Nat.le_of_ble_eq_true rfl⟩ ⟨Nat.le_of_ble_eq_true rfl, Nat.le_of_ble_eq_true rfl⟩ rfl hl.1 rfl (Nat.le_of_ble_eq_true rfl) dX5_divisor_31) (fun E ce q9 w' H locs hp hB hce hcv hcl => ?_) (fun o w' H locs hp hB => ?_)
    · obtain ⟨he11, hE12, rfl⟩ := hp
      replace hR := ifn (ne_mt hE12 (by decide)) hR
      rw [← hQ]
      exact thrown_on hX hne hB hA3 hce hcv hcl (by obtain ⟨rfl, rfl, rfl, rfl, rfl⟩ := pr5 hR; exact ⟨he11, ((by decide : ∀ x ∈ (["java/lang/IllegalArgumentException"] : List String), x ∈ (["java/lang/IndexOutOfBoundsException", "java/lang/IllegalArgumentException"] : List String)) _ hE12), (fun h => h), rfl, rfl⟩) (Nat.le_of_ble_eq_true rfl) (Nat.le_of_ble_eq_true rfl)
    obtain ⟨he11, rfl, rfl⟩ := hp
    replace hR := ifp he11 hR
    refine W.eq (g2 := F0 m 34 ls []) rfl ?_
    refine lv_aload_n hx hb dX5_divisor_34 rfl (lv_at hl 0 rfl) ?_
    refine lv_iload_n hx hb dX5_divisor_35 rfl (lv_at hl 3 rfl) ?_
    obtain ⟨x14, hd13⟩ := ex1 (D_X0_findDivisor r q f x5 p1)
    replace hR := bnd1_use hd13 hR
    refine call_S (n := 2) (As := [.ref (a (6 + 2 * x5)), .int p1]) (rest := []) hX hB (k_X0_findDivisor κ l a r q f x5 p1 (lt15 hx5) x14 hd13) yk_X0_findDivisor wm_2_122 wm_2_56 wm_1_29 wm_2_57 ⟨Nat.le_of_ble_eq_true rfl, Nat.le_of_ble_eq_true rfl⟩ ⟨Nat.le_of_ble_eq_true rfl, Nat.le_of_ble_eq_true rfl⟩ rfl hl.1 rfl (Nat.le_of_ble_eq_true rfl) dX5_divisor_36 (fun o w' H locs hp hB => ?_)
    obtain ⟨rfl, rfl⟩ := hp
    refine W.eq (g2 := F0 m 39 ls [.long x14]) rfl ?_
    refine lv_l2i hx hb dX5_divisor_39 rfl ?_
    rw [← hQ]
    exact vx_ret ( end_i hX hB hA3 rfl rfl (by obtain ⟨rfl, rfl, rfl, rfl, rfl⟩ := pr5 hR; exact ⟨rfl, rfl, (fun h => h), rfl, rfl⟩) (Nat.le_of_ble_eq_true rfl) (Nat.le_of_ble_eq_true rfl) dX5_divisor_40)
  refine lv_if_lt (tgt := 30) hx hb dX5_divisor_7 (by decide) (fun c15 => ?_) (fun c15 => ?_)
  · replace hR := ifp c15 hR
    refine lv_iconst (v := 0) hx hb dX5_divisor_30 (by decide) ?_
    exact jn31 0 _ _ (Or.inl rfl) hR hB _ hl
  · replace hR := ifn c15 hR
    refine lv_iload_n hx hb dX5_divisor_10 rfl (lv_at hl 3 rfl) ?_
    refine lv_aload_n hx hb dX5_divisor_11 rfl (lv_at hl 0 rfl) ?_
    refine gfN hX hB (cwG (i := x5) (lt15 hx5)) rfl in3 1 (by decide) wn_1_51 rfl rfl dX5_divisor_12 ?_
    refine lv_icmp_gt (tgt := 30) hx hb dX5_divisor_15 (by decide) (fun c16 => ?_) (fun c16 => ?_)
    · replace hR := ifp c16 hR
      refine lv_iconst (v := 0) hx hb dX5_divisor_30 (by decide) ?_
      exact jn31 0 _ _ (Or.inl rfl) hR hB _ hl
    · replace hR := ifn c16 hR
      refine lv_iload_n hx hb dX5_divisor_18 rfl (lv_at hl 3 rfl) ?_
      refine lv_aload_n hx hb dX5_divisor_19 rfl (lv_at hl 0 rfl) ?_
      refine gfN hX hB (cwG (i := x5) (lt15 hx5)) rfl in3 2 (by decide) wn_1_57 rfl rfl dX5_divisor_20 ?_
      refine lv_icmp_gt (tgt := 30) hx hb dX5_divisor_23 (by decide) (fun c17 => ?_) (fun c17 => ?_)
      · replace hR := ifp c17 hR
        refine lv_iconst (v := 0) hx hb dX5_divisor_30 (by decide) ?_
        exact jn31 0 _ _ (Or.inl rfl) hR hB _ hl
      · replace hR := ifn c17 hR
        refine lv_iconst (v := 1) hx hb dX5_divisor_26 (by decide) ?_
        refine lv_goto (tgt := 31) hx hb dX5_divisor_27 (by decide) ?_
        exact jn31 1 _ _ (Or.inr rfl) hR hB _ hl
noncomputable def D_X5_rank_j55 (r14 : Nat → Int32) (q16 : Nat → Int32) (f18 : Nat → Nat → Int64) (z0_55 : Int32) : String × Int32 × (Nat → Int32) × (Nat → Int32) × (Nat → Nat → Int64) := bnd1 (D_X5_needState r14 q16 f18 z0_55) (fun (E21 : String) => (if E21 = "" then bnd1 (D_X4_countFilledRows r14 q16 f18) (fun (x25 : Int32) => ("", x25, r14, q16, f18)) else (E21, 0, r14, q16, f18)))
theorem D_X5_rank_j55_s {r14 : Nat → Int32} {q16 : Nat → Int32} {f18 : Nat → Nat → Int64} {z0_55 : Int32} : D_X5_rank_j55 r14 q16 f18 z0_55 = bnd1 (D_X5_needState r14 q16 f18 z0_55) (fun (E21 : String) => (if E21 = "" then bnd1 (D_X4_countFilledRows r14 q16 f18) (fun (x25 : Int32) => ("", x25, r14, q16, f18)) else (E21, 0, r14, q16, f18))) := rfl
noncomputable def D_X5_rank_j20 (r : Nat → Int32) (q : Nat → Int32) (f : Nat → Nat → Int64) (p1 : Int32) (x5 : Nat) (z0_20 : Int32) : String × Int32 × (Nat → Int32) × (Nat → Int32) × (Nat → Nat → Int64) := bnd1 (D_X5_needArgument r q f z0_20) (fun (E9 : String) => (if E9 = "" then (if p1 = 0 then bnd1 (D_X0_findRank r q f x5) (fun (x28 : Int32) => ("", x28, r, q, f)) else bnd3 (D_X4_walk r q f x5) (fun (r14 : Nat → Int32) (q16 : Nat → Int32) (f18 : Nat → Nat → Int64) => (if (q16 0) = 0 then (D_X5_rank_j55 r14 q16 f18 1) else (D_X5_rank_j55 r14 q16 f18 0)))) else (E9, 0, r, q, f)))
theorem D_X5_rank_j20_s {r : Nat → Int32} {q : Nat → Int32} {f : Nat → Nat → Int64} {p1 : Int32} {x5 : Nat} {z0_20 : Int32} : D_X5_rank_j20 r q f p1 x5 z0_20 = bnd1 (D_X5_needArgument r q f z0_20) (fun (E9 : String) => (if E9 = "" then (if p1 = 0 then bnd1 (D_X0_findRank r q f x5) (fun (x28 : Int32) => ("", x28, r, q, f)) else bnd3 (D_X4_walk r q f x5) (fun (r14 : Nat → Int32) (q16 : Nat → Int32) (f18 : Nat → Nat → Int64) => (if (q16 0) = 0 then (D_X5_rank_j55 r14 q16 f18 1) else (D_X5_rank_j55 r14 q16 f18 0)))) else (E9, 0, r, q, f))) := rfl
noncomputable def D_X5_rank (r : Nat → Int32) (q : Nat → Int32) (f : Nat → Nat → Int64) (p0 : Int32) (p1 : Int32) : String × Int32 × (Nat → Int32) × (Nat → Int32) × (Nat → Nat → Int64) := bnd2 (D_X5_needTable r q f p0) (fun (E2 : String) (x5 : Nat) => (if E2 = "" then (if p1 = 0 then (D_X5_rank_j20 r q f p1 x5 1) else (if p1 = 1 then (D_X5_rank_j20 r q f p1 x5 1) else (D_X5_rank_j20 r q f p1 x5 0))) else (E2, 0, r, q, f)))
theorem D_X5_rank_s {r : Nat → Int32} {q : Nat → Int32} {f : Nat → Nat → Int64} {p0 : Int32} {p1 : Int32} : D_X5_rank r q f p0 p1 = bnd2 (D_X5_needTable r q f p0) (fun (E2 : String) (x5 : Nat) => (if E2 = "" then (if p1 = 0 then (D_X5_rank_j20 r q f p1 x5 1) else (if p1 = 1 then (D_X5_rank_j20 r q f p1 x5 1) else (D_X5_rank_j20 r q f p1 x5 0))) else (E2, 0, r, q, f))) := rfl
set_option maxHeartbeats 4000000 in
set_option maxRecDepth 100000 in
theorem k_X5_rank (κ : Kt) (l : Launch) (hst : l.stackTraces = false) (a : Nat → Nat) (r q : Nat → Int32) (f : Nat → Nat → Int64) (p0 : Int32) (p1 : Int32) (hok : okr r) (o_E : String) (o_x : Int32) (o_r : Nat → Int32) (o_q : Nat → Int32) (o_f : Nat → Nat → Int64) (hR : D_X5_rank r q f p0 p1 = (o_E, o_x, o_r, o_q, o_f)) : CX κ l yX5_rank cX5_rank 4 (some .int) 7 193 3 18 [.ref (a 0), .int p0, .int p1] (cw κ a r q f) (fun o w' => o_E = "" ∧ o = some (.int o_x) ∧ (okr r → okr o_r) ∧ o_q 4 = q 4 ∧ w' = cw κ a o_r o_q o_f) (fun E w' => o_E = E ∧ o_E ∈ (["java/lang/IndexOutOfBoundsException", "java/lang/IllegalArgumentException", "java/lang/IllegalStateException"] : List String) ∧ (okr r → okr o_r) ∧ o_q 4 = q 4 ∧ w' = cw κ a o_r o_q o_f) := by
  refine CX_begin (by decide) (Nat.le_of_ble_eq_true rfl) ?_
  intro p e s m args below meth c A Q hX hne hA3 hQ hB ls hl
  have hx := hX.1.1
  have hb := hX.1.2.1
  have hl : lv_has ls 4 [(0, .ref (a 0)), (1, .int p0), (2, .int p1)] := hl
  replace hR := (D_X5_rank_s).symm.trans hR
  refine lv_aload_n hx hb dX5_rank_0 rfl (lv_at hl 0 rfl) ?_
  refine lv_iload_n hx hb dX5_rank_1 rfl (lv_at hl 1 rfl) ?_
  obtain ⟨E2, x5, hd1⟩ := ex2 (D_X5_needTable r q f p0)
  replace hR := bnd2_use hd1 hR
  refine CX_after2 hX hB (run_XV (n := 1) (As := [.int p0]) (rest := []) hX hB (k_X5_needTable κ l hst a r q f p0 E2 x5 hd1) ⟨rfl, yk_X5_needTable⟩ wm_2_165 wm_2_167 wp_17 wm_1_1 wm_2_168 ⟨Nat.le_of_ble_eq_true rfl, Nat.le_of_ble_eq_true rfl⟩ ⟨Nat.le_of_ble_eq_true rfl, Nat.le_of_ble_eq_true rfl⟩ cw0 rfl rfl rfl hl.1 rfl (Nat.le_of_ble_eq_true rfl) dX5_rank_2) (fun E ce q9 w' H locs hp hB hce hcv hcl => ?_) (fun o w' H locs hp hB => ?_)
  · obtain ⟨he3, hE4, rfl⟩ := hp
    replace hR := ifn (ne_mt hE4 (by decide)) hR
    rw [← hQ]
    exact thrown_on hX hne hB hA3 hce hcv hcl (by obtain ⟨rfl, rfl, rfl, rfl, rfl⟩ := pr5 hR; exact ⟨he3, ((by decide : ∀ x ∈ (["java/lang/IndexOutOfBoundsException"] : List String), x ∈ (["java/lang/IndexOutOfBoundsException", "java/lang/IllegalArgumentException", "java/lang/IllegalStateException"] : List String)) _ hE4), (fun h => h), rfl, rfl⟩) (Nat.le_of_ble_eq_true rfl) (Nat.le_of_ble_eq_true rfl)
  obtain ⟨he3, hx5, rfl, rfl⟩ := hp
  replace hR := ifp he3 hR
  refine W.eq (g2 := F0 m 5 ls [.ref (a (6 + 2 * x5))]) rfl ?_
  refine lv_astore_n (lv' := [(3, .ref (a (6 + 2 * x5))), (0, .ref (a 0)), (1, .int p0), (2, .int p1)]) hx hb dX5_rank_5 rfl hl (by decide) rfl (fun ls hl => ?_)
  refine lv_iload_n hx hb dX5_rank_6 rfl (lv_at hl 3 rfl) ?_
  have jn20 : ∀ (z0_20 : Int32) (H : Heap) (locs : List Loc), (z0_20 = 0 ∨ z0_20 = 1) → D_X5_rank_j20 r q f p1 x5 z0_20 = (o_E, o_x, o_r, o_q, o_f) → Bd κ A s (cw κ a r q f) H locs → ∀ ls : Array Slot, lv_has ls 4 [(3, .ref (a (6 + 2 * x5))), (0, .ref (a 0)), (1, .int p0), (2, .int p1)] → W p l e (Rm 7 193 3 18) s m args below meth c H locs 1 6 Q (F0 m 20 ls [.int z0_20]) := by
    intro z0_20 H locs hz0_20 hR hB ls hl
    replace hR := (D_X5_rank_j20_s).symm.trans hR
    obtain ⟨E9, hd8⟩ := ex1 (D_X5_needArgument r q f z0_20)
    replace hR := bnd1_use hd8 hR
    refine CX_after2 hX hB (run_XS (n := 1) (As := [.int z0_20]) (rest := []) hX hB (k_X5_needArgument κ l hst a r q f z0_20 E9 hd8) yk_X5_needArgument wm_3_0 wm_3_1 wm_1_1 wm_3_2 ⟨Nat.le_of_ble_eq_true rfl, Nat.le_of_ble_eq_true rfl⟩ ⟨Nat.le_of_ble_eq_true rfl, Nat.le_of_ble_eq_true rfl⟩ rfl hl.1 rfl (Nat.le_of_ble_eq_true rfl) dX5_rank_20) (fun E ce q9 w' H locs hp hB hce hcv hcl => ?_) (fun o w' H locs hp hB => ?_)
    · obtain ⟨he10, hE11, rfl⟩ := hp
      replace hR := ifn (ne_mt hE11 (by decide)) hR
      rw [← hQ]
      exact thrown_on hX hne hB hA3 hce hcv hcl (by obtain ⟨rfl, rfl, rfl, rfl, rfl⟩ := pr5 hR; exact ⟨he10, ((by decide : ∀ x ∈ (["java/lang/IllegalArgumentException"] : List String), x ∈ (["java/lang/IndexOutOfBoundsException", "java/lang/IllegalArgumentException", "java/lang/IllegalStateException"] : List String)) _ hE11), (fun h => h), rfl, rfl⟩) (Nat.le_of_ble_eq_true rfl) (Nat.le_of_ble_eq_true rfl)
    obtain ⟨he10, rfl, rfl⟩ := hp
    replace hR := ifp he10 hR
    refine W.eq (g2 := F0 m 23 ls []) rfl ?_
    refine lv_iload_n hx hb dX5_rank_23 rfl (lv_at hl 3 rfl) ?_
    refine lv_if_ne (tgt := 32) hx hb dX5_rank_24 (by decide) (fun c12 => ?_) (fun c12 => ?_)
    · replace hR := ifn c12 hR
      refine lv_aload_n hx hb dX5_rank_32 rfl (lv_at hl 1 rfl) ?_
      refine gf hX hB cw0 rfl in5 3 (by decide) wm_1_140 rfl rfl dX5_rank_33 ?_
      refine lv_aload_n hx hb dX5_rank_36 rfl (lv_at hl 0 rfl) ?_
      obtain ⟨r14, q16, f18, hd13⟩ := ex3 (D_X4_walk r q f x5)
      replace hR := bnd3_use hd13 hR
      refine call_V (n := 1) (As := [.ref (a (6 + 2 * x5))]) (rest := []) hX hB (k_X4_walk κ l a r q f x5 (lt15 hx5) r14 q16 f18 hd13) ⟨rfl, yk_X4_walk⟩ wm_1_200 wm_1_201 wm_1_202 wm_1_3 wm_1_203 ⟨Nat.le_of_ble_eq_true rfl, Nat.le_of_ble_eq_true rfl⟩ ⟨Nat.le_of_ble_eq_true rfl, Nat.le_of_ble_eq_true rfl⟩ cw2 rfl rfl rfl hl.1 rfl (Nat.le_of_ble_eq_true rfl) dX5_rank_37 (fun o w' H locs hp hB => ?_)
      obtain ⟨rfl, ho15, hq17, rfl⟩ := hp
      refine W.eq (g2 := F0 m 40 ls []) rfl ?_
      refine lv_aload_n hx hb dX5_rank_40 rfl (lv_at hl 1 rfl) ?_
      refine gf hX hB cw0 rfl in5 3 (by decide) wm_1_140 rfl rfl dX5_rank_41 ?_
      refine gfN hX hB cw2 rfl in4 2 (by decide) wn_1_79 rfl rfl dX5_rank_44 ?_
      have jn55 : ∀ (z0_55 : Int32) (H : Heap) (locs : List Loc), (z0_55 = 0 ∨ z0_55 = 1) → D_X5_rank_j55 r14 q16 f18 z0_55 = (o_E, o_x, o_r, o_q, o_f) → Bd κ A s (cw κ a r14 q16 f18) H locs → ∀ ls : Array Slot, lv_has ls 4 [(3, .ref (a (6 + 2 * x5))), (0, .ref (a 0)), (1, .int p0), (2, .int p1)] → W p l e (Rm 7 193 3 18) s m args below meth c H locs 2 12 Q (F0 m 55 ls [.int z0_55]) := by
        intro z0_55 H locs hz0_55 hR hB ls hl
        replace hR := (D_X5_rank_j55_s).symm.trans hR
        obtain ⟨E21, hd20⟩ := ex1 (D_X5_needState r14 q16 f18 z0_55)
        replace hR := bnd1_use hd20 hR
        refine CX_after2 hX hB (run_XS (n := 1) (As := [.int z0_55]) (rest := []) hX hB (k_X5_needState κ l hst a r14 q16 f18 z0_55 E21 hd20) yk_X5_needState wm_5_26 wm_5_27 wm_1_1 wm_5_28 ⟨Nat.le_of_ble_eq_true rfl, Nat.le_of_ble_eq_true rfl⟩ ⟨Nat.le_of_ble_eq_true rfl, Nat.le_of_ble_eq_true rfl⟩ rfl hl.1 rfl (Nat.le_of_ble_eq_true rfl) dX5_rank_55) (fun E ce q9 w' H locs hp hB hce hcv hcl => ?_) (fun o w' H locs hp hB => ?_)
        · obtain ⟨he22, hE23, rfl⟩ := hp
          replace hR := ifn (ne_mt hE23 (by decide)) hR
          rw [← hQ]
          exact thrown_on hX hne hB hA3 hce hcv hcl (by obtain ⟨rfl, rfl, rfl, rfl, rfl⟩ := pr5 hR; exact ⟨he22, ((by decide : ∀ x ∈ (["java/lang/IllegalStateException"] : List String), x ∈ (["java/lang/IndexOutOfBoundsException", "java/lang/IllegalArgumentException", "java/lang/IllegalStateException"] : List String)) _ hE23), (fun h => ho15 ((fun h => h) h)), (hq17.trans rfl), rfl⟩) (Nat.le_of_ble_eq_true rfl) (Nat.le_of_ble_eq_true rfl)
        obtain ⟨he22, rfl, rfl⟩ := hp
        replace hR := ifp he22 hR
        refine W.eq (g2 := F0 m 58 ls []) rfl ?_
        refine lv_aload_n hx hb dX5_rank_58 rfl (lv_at hl 1 rfl) ?_
        refine gf hX hB cw0 rfl in5 3 (by decide) wm_1_140 rfl rfl dX5_rank_59 ?_
        obtain ⟨x25, hd24⟩ := ex1 (D_X4_countFilledRows r14 q16 f18)
        replace hR := bnd1_use hd24 hR
        refine call_V (n := 0) (As := []) (rest := []) hX hB (k_X4_countFilledRows κ l a r14 q16 f18 x25 hd24) ⟨rfl, yk_X4_countFilledRows⟩ wm_2_63 wm_2_64 wm_2_65 wm_1_3 wm_2_66 ⟨Nat.le_of_ble_eq_true rfl, Nat.le_of_ble_eq_true rfl⟩ ⟨Nat.le_of_ble_eq_true rfl, Nat.le_of_ble_eq_true rfl⟩ cw2 rfl rfl rfl hl.1 rfl (Nat.le_of_ble_eq_true rfl) dX5_rank_62 (fun o w' H locs hp hB => ?_)
        obtain ⟨rfl, rfl⟩ := hp
        refine W.eq (g2 := F0 m 65 ls [.int x25]) rfl ?_
        rw [← hQ]
        exact vx_ret ( end_i hX hB hA3 rfl rfl (by obtain ⟨rfl, rfl, rfl, rfl, rfl⟩ := pr5 hR; exact ⟨rfl, rfl, (fun h => ho15 ((fun h => h) h)), (hq17.trans rfl), rfl⟩) (Nat.le_of_ble_eq_true rfl) (Nat.le_of_ble_eq_true rfl) dX5_rank_65)
      refine lv_if_ne (tgt := 54) hx hb dX5_rank_47 (by decide) (fun c26 => ?_) (fun c26 => ?_)
      · replace hR := ifn c26 hR
        refine lv_iconst (v := 0) hx hb dX5_rank_54 (by decide) ?_
        exact jn55 0 _ _ (Or.inl rfl) hR hB _ hl
      · replace hR := ifp c26 hR
        refine lv_iconst (v := 1) hx hb dX5_rank_50 (by decide) ?_
        refine lv_goto (tgt := 55) hx hb dX5_rank_51 (by decide) ?_
        exact jn55 1 _ _ (Or.inr rfl) hR hB _ hl
    · replace hR := ifp c12 hR
      refine lv_aload_n hx hb dX5_rank_27 rfl (lv_at hl 0 rfl) ?_
      obtain ⟨x28, hd27⟩ := ex1 (D_X0_findRank r q f x5)
      replace hR := bnd1_use hd27 hR
      refine call_S (n := 1) (As := [.ref (a (6 + 2 * x5))]) (rest := []) hX hB (k_X0_findRank κ l a r q f x5 (lt15 hx5) ((fun h => h) hok) x28 hd27) yk_X0_findRank wm_2_52 wm_2_53 wm_1_29 wm_2_54 ⟨Nat.le_of_ble_eq_true rfl, Nat.le_of_ble_eq_true rfl⟩ ⟨Nat.le_of_ble_eq_true rfl, Nat.le_of_ble_eq_true rfl⟩ rfl hl.1 rfl (Nat.le_of_ble_eq_true rfl) dX5_rank_28 (fun o w' H locs hp hB => ?_)
      obtain ⟨rfl, rfl⟩ := hp
      refine W.eq (g2 := F0 m 31 ls [.int x28]) rfl ?_
      rw [← hQ]
      exact vx_ret ( end_i hX hB hA3 rfl rfl (by obtain ⟨rfl, rfl, rfl, rfl, rfl⟩ := pr5 hR; exact ⟨rfl, rfl, (fun h => h), rfl, rfl⟩) (Nat.le_of_ble_eq_true rfl) (Nat.le_of_ble_eq_true rfl) dX5_rank_31)
  refine lv_if_eq (tgt := 15) hx hb dX5_rank_7 (by decide) (fun c29 => ?_) (fun c29 => ?_)
  · replace hR := ifp c29 hR
    refine lv_iconst (v := 1) hx hb dX5_rank_15 (by decide) ?_
    refine lv_goto (tgt := 20) hx hb dX5_rank_16 (by decide) ?_
    exact jn20 1 _ _ (Or.inr rfl) hR hB _ hl
  · replace hR := ifn c29 hR
    refine lv_iload_n hx hb dX5_rank_10 rfl (lv_at hl 3 rfl) ?_
    refine lv_iconst (v := 1) hx hb dX5_rank_11 (by decide) ?_
    refine lv_icmp_ne (tgt := 19) hx hb dX5_rank_12 (by decide) (fun c30 => ?_) (fun c30 => ?_)
    · replace hR := ifn c30 hR
      refine lv_iconst (v := 0) hx hb dX5_rank_19 (by decide) ?_
      exact jn20 0 _ _ (Or.inl rfl) hR hB _ hl
    · replace hR := ifp c30 hR
      refine lv_iconst (v := 1) hx hb dX5_rank_15 (by decide) ?_
      refine lv_goto (tgt := 20) hx hb dX5_rank_16 (by decide) ?_
      exact jn20 1 _ _ (Or.inr rfl) hR hB _ hl
noncomputable def D_X5_told_j86 (r : Nat → Int32) (q : Nat → Int32) (f : Nat → Nat → Int64) (p1 : Int32) (p2 : Int32) (p3 : Int32) (x5 : Nat) (z0_86 : Int32) : String × Int32 × (Nat → Int32) × (Nat → Int32) × (Nat → Nat → Int64) := bnd1 (D_X5_needArgument r q f z0_86) (fun (E20 : String) => (if E20 = "" then bnd4 (D_X5_findForm r q f x5 p1) (fun (x24 : Nat) (r25 : Nat → Int32) (q27 : Nat → Int32) (f29 : Nat → Nat → Int64) => (if x24 = 15 then ("java/lang/IllegalStateException", 0, r25, q27, f29) else bnd1 (D_X3_get r25 q27 f29 x24 p2 p3) (fun (x32 : Int64) => ("", (x32).toInt32, r25, q27, f29)))) else (E20, 0, r, q, f)))
theorem D_X5_told_j86_s {r : Nat → Int32} {q : Nat → Int32} {f : Nat → Nat → Int64} {p1 : Int32} {p2 : Int32} {p3 : Int32} {x5 : Nat} {z0_86 : Int32} : D_X5_told_j86 r q f p1 p2 p3 x5 z0_86 = bnd1 (D_X5_needArgument r q f z0_86) (fun (E20 : String) => (if E20 = "" then bnd4 (D_X5_findForm r q f x5 p1) (fun (x24 : Nat) (r25 : Nat → Int32) (q27 : Nat → Int32) (f29 : Nat → Nat → Int64) => (if x24 = 15 then ("java/lang/IllegalStateException", 0, r25, q27, f29) else bnd1 (D_X3_get r25 q27 f29 x24 p2 p3) (fun (x32 : Int64) => ("", (x32).toInt32, r25, q27, f29)))) else (E20, 0, r, q, f))) := rfl
noncomputable def D_X5_told_j57 (r : Nat → Int32) (q : Nat → Int32) (f : Nat → Nat → Int64) (p1 : Int32) (p2 : Int32) (p3 : Int32) (x5 : Nat) (z0_32 : Int32) (z0_57 : Int32) : String × Int32 × (Nat → Int32) × (Nat → Int32) × (Nat → Nat → Int64) := (if p2 < 0 then (D_X5_told_j86 r q f p1 p2 p3 x5 0) else (if z0_32 ≤ p2 then (D_X5_told_j86 r q f p1 p2 p3 x5 0) else (if p3 < 0 then (D_X5_told_j86 r q f p1 p2 p3 x5 0) else (if z0_57 ≤ p3 then (D_X5_told_j86 r q f p1 p2 p3 x5 0) else (D_X5_told_j86 r q f p1 p2 p3 x5 1)))))
theorem D_X5_told_j57_s {r : Nat → Int32} {q : Nat → Int32} {f : Nat → Nat → Int64} {p1 : Int32} {p2 : Int32} {p3 : Int32} {x5 : Nat} {z0_32 : Int32} {z0_57 : Int32} : D_X5_told_j57 r q f p1 p2 p3 x5 z0_32 z0_57 = (if p2 < 0 then (D_X5_told_j86 r q f p1 p2 p3 x5 0) else (if z0_32 ≤ p2 then (D_X5_told_j86 r q f p1 p2 p3 x5 0) else (if p3 < 0 then (D_X5_told_j86 r q f p1 p2 p3 x5 0) else (if z0_57 ≤ p3 then (D_X5_told_j86 r q f p1 p2 p3 x5 0) else (D_X5_told_j86 r q f p1 p2 p3 x5 1))))) := rfl
noncomputable def D_X5_told_j32 (r : Nat → Int32) (q : Nat → Int32) (f : Nat → Nat → Int64) (p1 : Int32) (p2 : Int32) (p3 : Int32) (x5 : Nat) (z0_32 : Int32) : String × Int32 × (Nat → Int32) × (Nat → Int32) × (Nat → Nat → Int64) := (if p1 = 1 then (D_X5_told_j57 r q f p1 p2 p3 x5 z0_32 (r (2 * x5))) else (if p1 = 3 then (D_X5_told_j57 r q f p1 p2 p3 x5 z0_32 (r (2 * x5))) else (D_X5_told_j57 r q f p1 p2 p3 x5 z0_32 (r (2 * x5 + 1)))))
theorem D_X5_told_j32_s {r : Nat → Int32} {q : Nat → Int32} {f : Nat → Nat → Int64} {p1 : Int32} {p2 : Int32} {p3 : Int32} {x5 : Nat} {z0_32 : Int32} : D_X5_told_j32 r q f p1 p2 p3 x5 z0_32 = (if p1 = 1 then (D_X5_told_j57 r q f p1 p2 p3 x5 z0_32 (r (2 * x5))) else (if p1 = 3 then (D_X5_told_j57 r q f p1 p2 p3 x5 z0_32 (r (2 * x5))) else (D_X5_told_j57 r q f p1 p2 p3 x5 z0_32 (r (2 * x5 + 1))))) := rfl
noncomputable def D_X5_told (r : Nat → Int32) (q : Nat → Int32) (f : Nat → Nat → Int64) (p0 : Int32) (p1 : Int32) (p2 : Int32) (p3 : Int32) : String × Int32 × (Nat → Int32) × (Nat → Int32) × (Nat → Nat → Int64) := bnd2 (D_X5_needTable r q f p0) (fun (E2 : String) (x5 : Nat) => (if E2 = "" then bnd1 (D_X5_isForm p1) (fun (x6 : Int32) => bnd1 (D_X5_needArgument r q f x6) (fun (E9 : String) => (if E9 = "" then (if p1 = 4 then (D_X5_told_j32 r q f p1 p2 p3 x5 (r (2 * x5 + 1))) else (D_X5_told_j32 r q f p1 p2 p3 x5 (r (2 * x5)))) else (E9, 0, r, q, f)))) else (E2, 0, r, q, f)))
theorem D_X5_told_s {r : Nat → Int32} {q : Nat → Int32} {f : Nat → Nat → Int64} {p0 : Int32} {p1 : Int32} {p2 : Int32} {p3 : Int32} : D_X5_told r q f p0 p1 p2 p3 = bnd2 (D_X5_needTable r q f p0) (fun (E2 : String) (x5 : Nat) => (if E2 = "" then bnd1 (D_X5_isForm p1) (fun (x6 : Int32) => bnd1 (D_X5_needArgument r q f x6) (fun (E9 : String) => (if E9 = "" then (if p1 = 4 then (D_X5_told_j32 r q f p1 p2 p3 x5 (r (2 * x5 + 1))) else (D_X5_told_j32 r q f p1 p2 p3 x5 (r (2 * x5)))) else (E9, 0, r, q, f)))) else (E2, 0, r, q, f))) := rfl
set_option maxHeartbeats 4000000 in
set_option maxRecDepth 100000 in
theorem k_X5_told (κ : Kt) (l : Launch) (hst : l.stackTraces = false) (a : Nat → Nat) (r q : Nat → Int32) (f : Nat → Nat → Int64) (p0 : Int32) (p1 : Int32) (p2 : Int32) (p3 : Int32)  (o_E : String) (o_x : Int32) (o_r : Nat → Int32) (o_q : Nat → Int32) (o_f : Nat → Nat → Int64) (hR : D_X5_told r q f p0 p1 p2 p3 = (o_E, o_x, o_r, o_q, o_f)) : CX κ l yX5_told cX5_told 9 (some .int) 7 146 4 24 [.ref (a 0), .int p0, .int p1, .int p2, .int p3] (cw κ a r q f) (fun o w' => o_E = "" ∧ o = some (.int o_x) ∧ (okr r → okr o_r) ∧ o_q 4 = q 4 ∧ w' = cw κ a o_r o_q o_f) (fun E w' => o_E = E ∧ o_E ∈ (["java/lang/IndexOutOfBoundsException", "java/lang/IllegalArgumentException", "java/lang/IllegalStateException"] : List String) ∧ (okr r → okr o_r) ∧ o_q 4 = q 4 ∧ w' = cw κ a o_r o_q o_f) := by
  refine CX_begin (by decide) (Nat.le_of_ble_eq_true rfl) ?_
  intro p e s m args below meth c A Q hX hne hA3 hQ hB ls hl
  have hx := hX.1.1
  have hb := hX.1.2.1
  have hl : lv_has ls 9 [(0, .ref (a 0)), (1, .int p0), (2, .int p1), (3, .int p2), (4, .int p3)] := hl
  replace hR := (D_X5_told_s).symm.trans hR
  refine lv_aload_n hx hb dX5_told_0 rfl (lv_at hl 0 rfl) ?_
  refine lv_iload_n hx hb dX5_told_1 rfl (lv_at hl 1 rfl) ?_
  obtain ⟨E2, x5, hd1⟩ := ex2 (D_X5_needTable r q f p0)
  replace hR := bnd2_use hd1 hR
  refine CX_after2 hX hB (run_XV (n := 1) (As := [.int p0]) (rest := []) hX hB (k_X5_needTable κ l hst a r q f p0 E2 x5 hd1) ⟨rfl, yk_X5_needTable⟩ wm_2_165 wm_2_167 wp_17 wm_1_1 wm_2_168 ⟨Nat.le_of_ble_eq_true rfl, Nat.le_of_ble_eq_true rfl⟩ ⟨Nat.le_of_ble_eq_true rfl, Nat.le_of_ble_eq_true rfl⟩ cw0 rfl rfl rfl hl.1 rfl (Nat.le_of_ble_eq_true rfl) dX5_told_2) (fun E ce q9 w' H locs hp hB hce hcv hcl => ?_) (fun o w' H locs hp hB => ?_)
  · obtain ⟨he3, hE4, rfl⟩ := hp
    replace hR := ifn (ne_mt hE4 (by decide)) hR
    rw [← hQ]
    exact thrown_on hX hne hB hA3 hce hcv hcl (by obtain ⟨rfl, rfl, rfl, rfl, rfl⟩ := pr5 hR; exact ⟨he3, ((by decide : ∀ x ∈ (["java/lang/IndexOutOfBoundsException"] : List String), x ∈ (["java/lang/IndexOutOfBoundsException", "java/lang/IllegalArgumentException", "java/lang/IllegalStateException"] : List String)) _ hE4), (fun h => h), rfl, rfl⟩) (Nat.le_of_ble_eq_true rfl) (Nat.le_of_ble_eq_true rfl)
  obtain ⟨he3, hx5, rfl, rfl⟩ := hp
  replace hR := ifp he3 hR
  refine W.eq (g2 := F0 m 5 ls [.ref (a (6 + 2 * x5))]) rfl ?_
  refine lv_astore (lv' := [(5, .ref (a (6 + 2 * x5))), (0, .ref (a 0)), (1, .int p0), (2, .int p1), (3, .int p2), (4, .int p3)]) hx hb dX5_told_5 hl (by decide) rfl (fun ls hl => ?_)
  refine lv_iload_n hx hb dX5_told_7 rfl (lv_at hl 3 rfl) ?_
  obtain ⟨x6, hd7⟩ := ex1 (D_X5_isForm p1)
  replace hR := bnd1_use hd7 hR
  refine call_S (n := 1) (As := [.int p1]) (rest := []) hX hB (k_X5_isForm κ l (cw κ a r q f) p1  x6 hd7) yk_X5_isForm wm_3_171 wm_3_172 wm_1_1 wm_3_173 ⟨Nat.le_of_ble_eq_true rfl, Nat.le_of_ble_eq_true rfl⟩ ⟨Nat.le_of_ble_eq_true rfl, Nat.le_of_ble_eq_true rfl⟩ rfl hl.1 rfl (Nat.le_of_ble_eq_true rfl) dX5_told_8 (fun o w' H locs hp hB => ?_)
  obtain ⟨rfl, bx6, hw9⟩ := hp
  rw [hw9] at hB
  refine W.eq (g2 := F0 m 11 ls [.int x6]) rfl ?_
  obtain ⟨E9, hd8⟩ := ex1 (D_X5_needArgument r q f x6)
  replace hR := bnd1_use hd8 hR
  refine CX_after2 hX hB (run_XS (n := 1) (As := [.int x6]) (rest := []) hX hB (k_X5_needArgument κ l hst a r q f x6 E9 hd8) yk_X5_needArgument wm_3_0 wm_3_1 wm_1_1 wm_3_2 ⟨Nat.le_of_ble_eq_true rfl, Nat.le_of_ble_eq_true rfl⟩ ⟨Nat.le_of_ble_eq_true rfl, Nat.le_of_ble_eq_true rfl⟩ rfl hl.1 rfl (Nat.le_of_ble_eq_true rfl) dX5_told_11) (fun E ce q9 w' H locs hp hB hce hcv hcl => ?_) (fun o w' H locs hp hB => ?_)
  · obtain ⟨he10, hE11, rfl⟩ := hp
    replace hR := ifn (ne_mt hE11 (by decide)) hR
    rw [← hQ]
    exact thrown_on hX hne hB hA3 hce hcv hcl (by obtain ⟨rfl, rfl, rfl, rfl, rfl⟩ := pr5 hR; exact ⟨he10, ((by decide : ∀ x ∈ (["java/lang/IllegalArgumentException"] : List String), x ∈ (["java/lang/IndexOutOfBoundsException", "java/lang/IllegalArgumentException", "java/lang/IllegalStateException"] : List String)) _ hE11), (fun h => h), rfl, rfl⟩) (Nat.le_of_ble_eq_true rfl) (Nat.le_of_ble_eq_true rfl)
  obtain ⟨he10, rfl, rfl⟩ := hp
  replace hR := ifp he10 hR
  refine W.eq (g2 := F0 m 14 ls []) rfl ?_
  refine lv_iload_n hx hb dX5_told_14 rfl (lv_at hl 3 rfl) ?_
  refine lv_iconst (v := 4) hx hb dX5_told_15 (by decide) ?_
  have jn32 : ∀ (z0_32 : Int32) (H : Heap) (locs : List Loc), D_X5_told_j32 r q f p1 p2 p3 x5 z0_32 = (o_E, o_x, o_r, o_q, o_f) → Bd κ A s (cw κ a r q f) H locs → ∀ ls : Array Slot, lv_has ls 9 [(5, .ref (a (6 + 2 * x5))), (0, .ref (a 0)), (1, .int p0), (2, .int p1), (3, .int p2), (4, .int p3)] → W p l e (Rm 7 146 4 24) s m args below meth c H locs 2 12 Q (F0 m 32 ls [.int z0_32]) := by
    intro z0_32 H locs hR hB ls hl
    replace hR := (D_X5_told_j32_s).symm.trans hR
    refine lv_istore (lv' := [(6, .int z0_32), (5, .ref (a (6 + 2 * x5))), (0, .ref (a 0)), (1, .int p0), (2, .int p1), (3, .int p2), (4, .int p3)]) hx hb dX5_told_32 hl (by decide) rfl (fun ls hl => ?_)
    refine lv_iload_n hx hb dX5_told_34 rfl (lv_at hl 4 rfl) ?_
    refine lv_iconst (v := 1) hx hb dX5_told_35 (by decide) ?_
    have jn57 : ∀ (z0_57 : Int32) (H : Heap) (locs : List Loc), D_X5_told_j57 r q f p1 p2 p3 x5 z0_32 z0_57 = (o_E, o_x, o_r, o_q, o_f) → Bd κ A s (cw κ a r q f) H locs → ∀ ls : Array Slot, lv_has ls 9 [(6, .int z0_32), (5, .ref (a (6 + 2 * x5))), (0, .ref (a 0)), (1, .int p0), (2, .int p1), (3, .int p2), (4, .int p3)] → W p l e (Rm 7 146 4 24) s m args below meth c H locs 2 12 Q (F0 m 57 ls [.int z0_57]) := by
      intro z0_57 H locs hR hB ls hl
      replace hR := (D_X5_told_j57_s).symm.trans hR
      refine lv_istore (lv' := [(7, .int z0_57), (6, .int z0_32), (5, .ref (a (6 + 2 * x5))), (0, .ref (a 0)), (1, .int p0), (2, .int p1), (3, .int p2), (4, .int p3)]) hx hb dX5_told_57 hl (by decide) rfl (fun ls hl => ?_)
      refine lv_iload_n hx hb dX5_told_59 rfl (lv_at hl 6 rfl) ?_
      have jn86 : ∀ (z0_86 : Int32) (H : Heap) (locs : List Loc), (z0_86 = 0 ∨ z0_86 = 1) → D_X5_told_j86 r q f p1 p2 p3 x5 z0_86 = (o_E, o_x, o_r, o_q, o_f) → Bd κ A s (cw κ a r q f) H locs → ∀ ls : Array Slot, lv_has ls 9 [(7, .int z0_57), (6, .int z0_32), (5, .ref (a (6 + 2 * x5))), (0, .ref (a 0)), (1, .int p0), (2, .int p1), (3, .int p2), (4, .int p3)] → W p l e (Rm 7 146 4 24) s m args below meth c H locs 2 12 Q (F0 m 86 ls [.int z0_86]) := by
        intro z0_86 H locs hz0_86 hR hB ls hl
        replace hR := (D_X5_told_j86_s).symm.trans hR
        obtain ⟨E20, hd19⟩ := ex1 (D_X5_needArgument r q f z0_86)
        replace hR := bnd1_use hd19 hR
        refine CX_after2 hX hB (run_XS (n := 1) (As := [.int z0_86]) (rest := []) hX hB (k_X5_needArgument κ l hst a r q f z0_86 E20 hd19) yk_X5_needArgument wm_3_0 wm_3_1 wm_1_1 wm_3_2 ⟨Nat.le_of_ble_eq_true rfl, Nat.le_of_ble_eq_true rfl⟩ ⟨Nat.le_of_ble_eq_true rfl, Nat.le_of_ble_eq_true rfl⟩ rfl hl.1 rfl (Nat.le_of_ble_eq_true rfl) dX5_told_86) (fun E ce q9 w' H locs hp hB hce hcv hcl => ?_) (fun o w' H locs hp hB => ?_)
        · obtain ⟨he21, hE22, rfl⟩ := hp
          replace hR := ifn (ne_mt hE22 (by decide)) hR
          rw [← hQ]
          exact thrown_on hX hne hB hA3 hce hcv hcl (by obtain ⟨rfl, rfl, rfl, rfl, rfl⟩ := pr5 hR; exact ⟨he21, ((by decide : ∀ x ∈ (["java/lang/IllegalArgumentException"] : List String), x ∈ (["java/lang/IndexOutOfBoundsException", "java/lang/IllegalArgumentException", "java/lang/IllegalStateException"] : List String)) _ hE22), (fun h => h), rfl, rfl⟩) (Nat.le_of_ble_eq_true rfl) (Nat.le_of_ble_eq_true rfl)
        obtain ⟨he21, rfl, rfl⟩ := hp
        replace hR := ifp he21 hR
        refine W.eq (g2 := F0 m 89 ls []) rfl ?_
        refine lv_aload_n hx hb dX5_told_89 rfl (lv_at hl 3 rfl) ?_
        refine lv_aload hx hb dX5_told_90 (lv_at hl 2 rfl) ?_
        refine lv_iload_n hx hb dX5_told_92 rfl (lv_at hl 5 rfl) ?_
        obtain ⟨x24, r25, q27, f29, hd23⟩ := ex4 (D_X5_findForm r q f x5 p1)
        replace hR := bnd4_use hd23 hR
        refine call_V (n := 2) (As := [.ref (a (6 + 2 * x5)), .int p1]) (rest := []) hX hB (k_X5_findForm κ l a r q f x5 p1 (lt15 hx5) x24 r25 q27 f29 hd23) ⟨rfl, yk_X5_findForm⟩ wm_3_174 wm_3_176 wp_23 wm_1_1 wm_3_177 ⟨Nat.le_of_ble_eq_true rfl, Nat.le_of_ble_eq_true rfl⟩ ⟨Nat.le_of_ble_eq_true rfl, Nat.le_of_ble_eq_true rfl⟩ cw0 rfl rfl rfl hl.1 rfl (Nat.le_of_ble_eq_true rfl) dX5_told_93 (fun o w' H locs hp hB => ?_)
        obtain ⟨hh30, ho26, hq28, rfl⟩ := hp
        rcases hh30 with ⟨hz, rfl⟩ | ⟨hz, rfl⟩
        · replace hR := ifp hz hR
          refine W.eq (g2 := F0 m 96 ls [.null]) rfl ?_
          refine lv_astoreN (lv' := [(8, .null), (7, .int z0_57), (6, .int z0_32), (5, .ref (a (6 + 2 * x5))), (0, .ref (a 0)), (1, .int p0), (2, .int p1), (3, .int p2), (4, .int p3)]) hx hb dX5_told_96 hl (by decide) rfl (fun ls hl => ?_)
          refine lv_aloadN hx hb dX5_told_98 (lv_at hl 0 rfl) ?_
          refine lv_ifnonnullN hx hb dX5_told_100 ?_
          rw [← hQ]
          exact throw_T (cls := "java/lang/IllegalStateException") (text := "the steps are great") (nL := 9) hst hX hne hB hA3 rfl (by decide) wm_5_29 wm_1_28 (by decide) tw_227a tw_227b tw_227c hl.1 dX5_told_103 dX5_told_106 dX5_told_107 dX5_told_109 dX5_told_112 (Nat.le_of_ble_eq_true rfl) (Nat.le_of_ble_eq_true rfl) (Nat.le_of_ble_eq_true rfl) (Nat.le_of_ble_eq_true rfl) (by obtain ⟨rfl, rfl, rfl, rfl, rfl⟩ := pr5 hR; exact ⟨rfl, (by decide), (fun h => ho26 ((fun h => h) h)), (hq28.trans rfl), rfl⟩) (Nat.le_of_ble_eq_true rfl) (Nat.le_of_ble_eq_true rfl)
        · replace hR := ifn (Nat.ne_of_lt hz) hR
          refine W.eq (g2 := F0 m 96 ls [.ref (a (6 + 2 * x24))]) rfl ?_
          refine lv_astore (lv' := [(8, .ref (a (6 + 2 * x24))), (7, .int z0_57), (6, .int z0_32), (5, .ref (a (6 + 2 * x5))), (0, .ref (a 0)), (1, .int p0), (2, .int p1), (3, .int p2), (4, .int p3)]) hx hb dX5_told_96 hl (by decide) rfl (fun ls hl => ?_)
          refine lv_aload hx hb dX5_told_98 (lv_at hl 0 rfl) ?_
          refine lv_ifnonnull (tgt := 113) hx hb dX5_told_100 (by decide) ?_
          refine lv_aload hx hb dX5_told_113 (lv_at hl 0 rfl) ?_
          refine lv_iload_n hx hb dX5_told_115 rfl (lv_at hl 7 rfl) ?_
          refine lv_iload hx hb dX5_told_116 (lv_at hl 8 rfl) ?_
          obtain ⟨x32, hd31⟩ := ex1 (D_X3_get r25 q27 f29 x24 p2 p3)
          replace hR := bnd1_use hd31 hR
          refine call_V (n := 2) (As := [.int p2, .int p3]) (rest := []) hX hB (k_X3_get κ l a r25 q27 f29 x24 p2 p3 hz x32 hd31) ⟨rfl, yk_X3_get⟩ wm_2_123 wm_1_187 wm_1_188 wm_1_2 wm_1_189 ⟨Nat.le_of_ble_eq_true rfl, Nat.le_of_ble_eq_true rfl⟩ ⟨Nat.le_of_ble_eq_true rfl, Nat.le_of_ble_eq_true rfl⟩ (cwG (i := x24) hz) rfl rfl rfl hl.1 rfl (Nat.le_of_ble_eq_true rfl) dX5_told_118 (fun o w' H locs hp hB => ?_)
          obtain ⟨rfl, rfl⟩ := hp
          refine W.eq (g2 := F0 m 121 ls [.long x32]) rfl ?_
          refine lv_l2i hx hb dX5_told_121 rfl ?_
          rw [← hQ]
          exact vx_ret ( end_i hX hB hA3 rfl rfl (by obtain ⟨rfl, rfl, rfl, rfl, rfl⟩ := pr5 hR; exact ⟨rfl, rfl, (fun h => ho26 ((fun h => h) h)), (hq28.trans rfl), rfl⟩) (Nat.le_of_ble_eq_true rfl) (Nat.le_of_ble_eq_true rfl) dX5_told_122)
      refine lv_if_lt (tgt := 85) hx hb dX5_told_60 (by decide) (fun c33 => ?_) (fun c33 => ?_)
      · replace hR := ifp c33 hR
        refine lv_iconst (v := 0) hx hb dX5_told_85 (by decide) ?_
        exact jn86 0 _ _ (Or.inl rfl) hR hB _ hl
      · replace hR := ifn c33 hR
        refine lv_iload_n hx hb dX5_told_63 rfl (lv_at hl 6 rfl) ?_
        refine lv_iload hx hb dX5_told_64 (lv_at hl 1 rfl) ?_
        refine lv_icmp_ge (tgt := 85) hx hb dX5_told_66 (by decide) (fun c34 => ?_) (fun c34 => ?_)
        · replace hR := ifp c34 hR
          refine lv_iconst (v := 0) hx hb dX5_told_85 (by decide) ?_
          exact jn86 0 _ _ (Or.inl rfl) hR hB _ hl
        · replace hR := ifn c34 hR
          refine lv_iload hx hb dX5_told_69 (lv_at hl 7 rfl) ?_
          refine lv_if_lt (tgt := 85) hx hb dX5_told_71 (by decide) (fun c35 => ?_) (fun c35 => ?_)
          · replace hR := ifp c35 hR
            refine lv_iconst (v := 0) hx hb dX5_told_85 (by decide) ?_
            exact jn86 0 _ _ (Or.inl rfl) hR hB _ hl
          · replace hR := ifn c35 hR
            refine lv_iload hx hb dX5_told_74 (lv_at hl 7 rfl) ?_
            refine lv_iload hx hb dX5_told_76 (lv_at hl 0 rfl) ?_
            refine lv_icmp_ge (tgt := 85) hx hb dX5_told_78 (by decide) (fun c36 => ?_) (fun c36 => ?_)
            · replace hR := ifp c36 hR
              refine lv_iconst (v := 0) hx hb dX5_told_85 (by decide) ?_
              exact jn86 0 _ _ (Or.inl rfl) hR hB _ hl
            · replace hR := ifn c36 hR
              refine lv_iconst (v := 1) hx hb dX5_told_81 (by decide) ?_
              refine lv_goto (tgt := 86) hx hb dX5_told_82 (by decide) ?_
              exact jn86 1 _ _ (Or.inr rfl) hR hB _ hl
    refine lv_icmp_eq (tgt := 44) hx hb dX5_told_36 (by decide) (fun c37 => ?_) (fun c37 => ?_)
    · replace hR := ifp c37 hR
      refine lv_aload hx hb dX5_told_44 (lv_at hl 1 rfl) ?_
      refine gfN hX hB (cwG (i := x5) (lt15 hx5)) rfl in3 1 (by decide) wn_1_51 rfl rfl dX5_told_46 ?_
      refine lv_goto (tgt := 57) hx hb dX5_told_49 (by decide) ?_
      exact jn57 (r (2 * x5)) _ _  hR hB _ hl
    · replace hR := ifn c37 hR
      refine lv_iload_n hx hb dX5_told_39 rfl (lv_at hl 4 rfl) ?_
      refine lv_iconst (v := 3) hx hb dX5_told_40 (by decide) ?_
      refine lv_icmp_ne (tgt := 52) hx hb dX5_told_41 (by decide) (fun c38 => ?_) (fun c38 => ?_)
      · replace hR := ifn c38 hR
        refine lv_aload hx hb dX5_told_52 (lv_at hl 1 rfl) ?_
        refine gfN hX hB (cwG (i := x5) (lt15 hx5)) rfl in3 2 (by decide) wn_1_57 rfl rfl dX5_told_54 ?_
        exact jn57 (r (2 * x5 + 1)) _ _  hR hB _ hl
      · replace hR := ifp c38 hR
        refine lv_aload hx hb dX5_told_44 (lv_at hl 1 rfl) ?_
        refine gfN hX hB (cwG (i := x5) (lt15 hx5)) rfl in3 1 (by decide) wn_1_51 rfl rfl dX5_told_46 ?_
        refine lv_goto (tgt := 57) hx hb dX5_told_49 (by decide) ?_
        exact jn57 (r (2 * x5)) _ _  hR hB _ hl
  refine lv_icmp_ne (tgt := 27) hx hb dX5_told_16 (by decide) (fun c39 => ?_) (fun c39 => ?_)
  · replace hR := ifn c39 hR
    refine lv_aload hx hb dX5_told_27 (lv_at hl 0 rfl) ?_
    refine gfN hX hB (cwG (i := x5) (lt15 hx5)) rfl in3 1 (by decide) wn_1_51 rfl rfl dX5_told_29 ?_
    exact jn32 (r (2 * x5)) _ _  hR hB _ hl
  · replace hR := ifp c39 hR
    refine lv_aload hx hb dX5_told_19 (lv_at hl 0 rfl) ?_
    refine gfN hX hB (cwG (i := x5) (lt15 hx5)) rfl in3 2 (by decide) wn_1_57 rfl rfl dX5_told_21 ?_
    refine lv_goto (tgt := 32) hx hb dX5_told_24 (by decide) ?_
    exact jn32 (r (2 * x5 + 1)) _ _  hR hB _ hl
noncomputable def D_X5_change_j101 (r : Nat → Int32) (q : Nat → Int32) (f : Nat → Nat → Int64) (x5 : Nat) (z0_101 : Int32) : String × Int32 × (Nat → Int32) × (Nat → Int32) × (Nat → Nat → Int64) := bnd4 (D_X5_findForm r q f x5 z0_101) (fun (x17 : Nat) (r18 : Nat → Int32) (q20 : Nat → Int32) (f22 : Nat → Nat → Int64) => (if x17 = 15 then ("java/lang/IllegalStateException", 0, r18, q20, f22) else bnd1 (D_X0_byFirstRow r18 q20 f22 x17) (fun (x25 : Int64) => ("", (x25).toInt32, r18, q20, f22))))
theorem D_X5_change_j101_s {r : Nat → Int32} {q : Nat → Int32} {f : Nat → Nat → Int64} {x5 : Nat} {z0_101 : Int32} : D_X5_change_j101 r q f x5 z0_101 = bnd4 (D_X5_findForm r q f x5 z0_101) (fun (x17 : Nat) (r18 : Nat → Int32) (q20 : Nat → Int32) (f22 : Nat → Nat → Int64) => (if x17 = 15 then ("java/lang/IllegalStateException", 0, r18, q20, f22) else bnd1 (D_X0_byFirstRow r18 q20 f22 x17) (fun (x25 : Int64) => ("", (x25).toInt32, r18, q20, f22)))) := rfl
noncomputable def D_X5_change_j20 (r : Nat → Int32) (q : Nat → Int32) (f : Nat → Nat → Int64) (p1 : Int32) (x5 : Nat) (z0_20 : Int32) : String × Int32 × (Nat → Int32) × (Nat → Int32) × (Nat → Nat → Int64) := bnd1 (D_X5_needArgument r q f z0_20) (fun (E9 : String) => (if E9 = "" then (if p1 = 0 then bnd3 (D_X4_walk r q f x5) (fun (r36 : Nat → Int32) (q38 : Nat → Int32) (f40 : Nat → Nat → Int64) => (if (q38 0) = 0 then ("", 0, r36, q38, f40) else ("", 1, r36, q38, f40))) else (if p1 = 1 then bnd3 (D_X1_walk r q f x5) (fun (r29 : Nat → Int32) (q31 : Nat → Int32) (f33 : Nat → Nat → Int64) => (if (q31 1) = 0 then ("", 0, r29, q31, f33) else ("", 1, r29, q31, f33))) else (if p1 = 2 then (D_X5_change_j101 r q f x5 1) else (if p1 = 3 then (D_X5_change_j101 r q f x5 3) else (D_X5_change_j101 r q f x5 4))))) else (E9, 0, r, q, f)))
theorem D_X5_change_j20_s {r : Nat → Int32} {q : Nat → Int32} {f : Nat → Nat → Int64} {p1 : Int32} {x5 : Nat} {z0_20 : Int32} : D_X5_change_j20 r q f p1 x5 z0_20 = bnd1 (D_X5_needArgument r q f z0_20) (fun (E9 : String) => (if E9 = "" then (if p1 = 0 then bnd3 (D_X4_walk r q f x5) (fun (r36 : Nat → Int32) (q38 : Nat → Int32) (f40 : Nat → Nat → Int64) => (if (q38 0) = 0 then ("", 0, r36, q38, f40) else ("", 1, r36, q38, f40))) else (if p1 = 1 then bnd3 (D_X1_walk r q f x5) (fun (r29 : Nat → Int32) (q31 : Nat → Int32) (f33 : Nat → Nat → Int64) => (if (q31 1) = 0 then ("", 0, r29, q31, f33) else ("", 1, r29, q31, f33))) else (if p1 = 2 then (D_X5_change_j101 r q f x5 1) else (if p1 = 3 then (D_X5_change_j101 r q f x5 3) else (D_X5_change_j101 r q f x5 4))))) else (E9, 0, r, q, f))) := rfl
noncomputable def D_X5_change (r : Nat → Int32) (q : Nat → Int32) (f : Nat → Nat → Int64) (p0 : Int32) (p1 : Int32) : String × Int32 × (Nat → Int32) × (Nat → Int32) × (Nat → Nat → Int64) := bnd2 (D_X5_needTable r q f p0) (fun (E2 : String) (x5 : Nat) => (if E2 = "" then (if p1 < 0 then (D_X5_change_j20 r q f p1 x5 0) else (if 4 < p1 then (D_X5_change_j20 r q f p1 x5 0) else (D_X5_change_j20 r q f p1 x5 1))) else (E2, 0, r, q, f)))
theorem D_X5_change_s {r : Nat → Int32} {q : Nat → Int32} {f : Nat → Nat → Int64} {p0 : Int32} {p1 : Int32} : D_X5_change r q f p0 p1 = bnd2 (D_X5_needTable r q f p0) (fun (E2 : String) (x5 : Nat) => (if E2 = "" then (if p1 < 0 then (D_X5_change_j20 r q f p1 x5 0) else (if 4 < p1 then (D_X5_change_j20 r q f p1 x5 0) else (D_X5_change_j20 r q f p1 x5 1))) else (E2, 0, r, q, f))) := rfl
set_option maxHeartbeats 4000000 in
set_option maxRecDepth 100000 in
theorem k_X5_change (κ : Kt) (l : Launch) (hst : l.stackTraces = false) (a : Nat → Nat) (r q : Nat → Int32) (f : Nat → Nat → Int64) (p0 : Int32) (p1 : Int32)  (o_E : String) (o_x : Int32) (o_r : Nat → Int32) (o_q : Nat → Int32) (o_f : Nat → Nat → Int64) (hR : D_X5_change r q f p0 p1 = (o_E, o_x, o_r, o_q, o_f)) : CX κ l yX5_change cX5_change 5 (some .int) 7 165 3 18 [.ref (a 0), .int p0, .int p1] (cw κ a r q f) (fun o w' => o_E = "" ∧ o = some (.int o_x) ∧ (okr r → okr o_r) ∧ o_q 4 = q 4 ∧ w' = cw κ a o_r o_q o_f) (fun E w' => o_E = E ∧ o_E ∈ (["java/lang/IndexOutOfBoundsException", "java/lang/IllegalArgumentException", "java/lang/IllegalStateException"] : List String) ∧ (okr r → okr o_r) ∧ o_q 4 = q 4 ∧ w' = cw κ a o_r o_q o_f) := by
  refine CX_begin (by decide) (Nat.le_of_ble_eq_true rfl) ?_
  intro p e s m args below meth c A Q hX hne hA3 hQ hB ls hl
  have hx := hX.1.1
  have hb := hX.1.2.1
  have hl : lv_has ls 5 [(0, .ref (a 0)), (1, .int p0), (2, .int p1)] := hl
  replace hR := (D_X5_change_s).symm.trans hR
  refine lv_aload_n hx hb dX5_change_0 rfl (lv_at hl 0 rfl) ?_
  refine lv_iload_n hx hb dX5_change_1 rfl (lv_at hl 1 rfl) ?_
  obtain ⟨E2, x5, hd1⟩ := ex2 (D_X5_needTable r q f p0)
  replace hR := bnd2_use hd1 hR
  refine CX_after2 hX hB (run_XV (n := 1) (As := [.int p0]) (rest := []) hX hB (k_X5_needTable κ l hst a r q f p0 E2 x5 hd1) ⟨rfl, yk_X5_needTable⟩ wm_2_165 wm_2_167 wp_17 wm_1_1 wm_2_168 ⟨Nat.le_of_ble_eq_true rfl, Nat.le_of_ble_eq_true rfl⟩ ⟨Nat.le_of_ble_eq_true rfl, Nat.le_of_ble_eq_true rfl⟩ cw0 rfl rfl rfl hl.1 rfl (Nat.le_of_ble_eq_true rfl) dX5_change_2) (fun E ce q9 w' H locs hp hB hce hcv hcl => ?_) (fun o w' H locs hp hB => ?_)
  · obtain ⟨he3, hE4, rfl⟩ := hp
    replace hR := ifn (ne_mt hE4 (by decide)) hR
    rw [← hQ]
    exact thrown_on hX hne hB hA3 hce hcv hcl (by obtain ⟨rfl, rfl, rfl, rfl, rfl⟩ := pr5 hR; exact ⟨he3, ((by decide : ∀ x ∈ (["java/lang/IndexOutOfBoundsException"] : List String), x ∈ (["java/lang/IndexOutOfBoundsException", "java/lang/IllegalArgumentException", "java/lang/IllegalStateException"] : List String)) _ hE4), (fun h => h), rfl, rfl⟩) (Nat.le_of_ble_eq_true rfl) (Nat.le_of_ble_eq_true rfl)
  obtain ⟨he3, hx5, rfl, rfl⟩ := hp
  replace hR := ifp he3 hR
  refine W.eq (g2 := F0 m 5 ls [.ref (a (6 + 2 * x5))]) rfl ?_
  refine lv_astore_n (lv' := [(3, .ref (a (6 + 2 * x5))), (0, .ref (a 0)), (1, .int p0), (2, .int p1)]) hx hb dX5_change_5 rfl hl (by decide) rfl (fun ls hl => ?_)
  refine lv_iload_n hx hb dX5_change_6 rfl (lv_at hl 3 rfl) ?_
  have jn20 : ∀ (z0_20 : Int32) (H : Heap) (locs : List Loc), (z0_20 = 0 ∨ z0_20 = 1) → D_X5_change_j20 r q f p1 x5 z0_20 = (o_E, o_x, o_r, o_q, o_f) → Bd κ A s (cw κ a r q f) H locs → ∀ ls : Array Slot, lv_has ls 5 [(3, .ref (a (6 + 2 * x5))), (0, .ref (a 0)), (1, .int p0), (2, .int p1)] → W p l e (Rm 7 165 3 18) s m args below meth c H locs 1 6 Q (F0 m 20 ls [.int z0_20]) := by
    intro z0_20 H locs hz0_20 hR hB ls hl
    replace hR := (D_X5_change_j20_s).symm.trans hR
    obtain ⟨E9, hd8⟩ := ex1 (D_X5_needArgument r q f z0_20)
    replace hR := bnd1_use hd8 hR
    refine CX_after2 hX hB (run_XS (n := 1) (As := [.int z0_20]) (rest := []) hX hB (k_X5_needArgument κ l hst a r q f z0_20 E9 hd8) yk_X5_needArgument wm_3_0 wm_3_1 wm_1_1 wm_3_2 ⟨Nat.le_of_ble_eq_true rfl, Nat.le_of_ble_eq_true rfl⟩ ⟨Nat.le_of_ble_eq_true rfl, Nat.le_of_ble_eq_true rfl⟩ rfl hl.1 rfl (Nat.le_of_ble_eq_true rfl) dX5_change_20) (fun E ce q9 w' H locs hp hB hce hcv hcl => ?_) (fun o w' H locs hp hB => ?_)
    · obtain ⟨he10, hE11, rfl⟩ := hp
      replace hR := ifn (ne_mt hE11 (by decide)) hR
      rw [← hQ]
      exact thrown_on hX hne hB hA3 hce hcv hcl (by obtain ⟨rfl, rfl, rfl, rfl, rfl⟩ := pr5 hR; exact ⟨he10, ((by decide : ∀ x ∈ (["java/lang/IllegalArgumentException"] : List String), x ∈ (["java/lang/IndexOutOfBoundsException", "java/lang/IllegalArgumentException", "java/lang/IllegalStateException"] : List String)) _ hE11), (fun h => h), rfl, rfl⟩) (Nat.le_of_ble_eq_true rfl) (Nat.le_of_ble_eq_true rfl)
    obtain ⟨he10, rfl, rfl⟩ := hp
    replace hR := ifp he10 hR
    refine W.eq (g2 := F0 m 23 ls []) rfl ?_
    refine lv_iload_n hx hb dX5_change_23 rfl (lv_at hl 3 rfl) ?_
    refine lv_if_ne (tgt := 51) hx hb dX5_change_24 (by decide) (fun c12 => ?_) (fun c12 => ?_)
    · replace hR := ifn c12 hR
      refine lv_iload_n hx hb dX5_change_51 rfl (lv_at hl 3 rfl) ?_
      refine lv_iconst (v := 1) hx hb dX5_change_52 (by decide) ?_
      refine lv_icmp_ne (tgt := 80) hx hb dX5_change_53 (by decide) (fun c13 => ?_) (fun c13 => ?_)
      · replace hR := ifn c13 hR
        refine lv_aload_n hx hb dX5_change_80 rfl (lv_at hl 1 rfl) ?_
        refine lv_aload_n hx hb dX5_change_81 rfl (lv_at hl 0 rfl) ?_
        refine lv_iload_n hx hb dX5_change_82 rfl (lv_at hl 3 rfl) ?_
        refine lv_iconst (v := 2) hx hb dX5_change_83 (by decide) ?_
        have jn101 : ∀ (z0_101 : Int32) (H : Heap) (locs : List Loc), D_X5_change_j101 r q f x5 z0_101 = (o_E, o_x, o_r, o_q, o_f) → Bd κ A s (cw κ a r q f) H locs → ∀ ls : Array Slot, lv_has ls 5 [(3, .ref (a (6 + 2 * x5))), (0, .ref (a 0)), (1, .int p0), (2, .int p1)] → W p l e (Rm 7 165 3 18) s m args below meth c H locs 2 12 Q (F0 m 101 ls [.int z0_101, .ref (a (6 + 2 * x5)), .ref (a 0)]) := by
          intro z0_101 H locs hR hB ls hl
          replace hR := (D_X5_change_j101_s).symm.trans hR
          obtain ⟨x17, r18, q20, f22, hd16⟩ := ex4 (D_X5_findForm r q f x5 z0_101)
          replace hR := bnd4_use hd16 hR
          refine call_V (n := 2) (As := [.ref (a (6 + 2 * x5)), .int z0_101]) (rest := []) hX hB (k_X5_findForm κ l a r q f x5 z0_101 (lt15 hx5) x17 r18 q20 f22 hd16) ⟨rfl, yk_X5_findForm⟩ wm_3_174 wm_3_176 wp_23 wm_1_1 wm_3_177 ⟨Nat.le_of_ble_eq_true rfl, Nat.le_of_ble_eq_true rfl⟩ ⟨Nat.le_of_ble_eq_true rfl, Nat.le_of_ble_eq_true rfl⟩ cw0 rfl rfl rfl hl.1 rfl (Nat.le_of_ble_eq_true rfl) dX5_change_101 (fun o w' H locs hp hB => ?_)
          obtain ⟨hh23, ho19, hq21, rfl⟩ := hp
          rcases hh23 with ⟨hz, rfl⟩ | ⟨hz, rfl⟩
          · replace hR := ifp hz hR
            refine W.eq (g2 := F0 m 104 ls [.null]) rfl ?_
            refine lv_astoreN (lv' := [(4, .null), (3, .ref (a (6 + 2 * x5))), (0, .ref (a 0)), (1, .int p0), (2, .int p1)]) hx hb dX5_change_104 hl (by decide) rfl (fun ls hl => ?_)
            refine lv_aloadN hx hb dX5_change_106 (lv_at hl 0 rfl) ?_
            refine lv_ifnonnullN hx hb dX5_change_108 ?_
            rw [← hQ]
            exact throw_T (cls := "java/lang/IllegalStateException") (text := "the steps are great") (nL := 5) hst hX hne hB hA3 rfl (by decide) wm_5_29 wm_1_28 (by decide) tw_227a tw_227b tw_227c hl.1 dX5_change_111 dX5_change_114 dX5_change_115 dX5_change_117 dX5_change_120 (Nat.le_of_ble_eq_true rfl) (Nat.le_of_ble_eq_true rfl) (Nat.le_of_ble_eq_true rfl) (Nat.le_of_ble_eq_true rfl) (by obtain ⟨rfl, rfl, rfl, rfl, rfl⟩ := pr5 hR; exact ⟨rfl, (by decide), (fun h => ho19 ((fun h => h) h)), (hq21.trans rfl), rfl⟩) (Nat.le_of_ble_eq_true rfl) (Nat.le_of_ble_eq_true rfl)
          · replace hR := ifn (Nat.ne_of_lt hz) hR
            refine W.eq (g2 := F0 m 104 ls [.ref (a (6 + 2 * x17))]) rfl ?_
            refine lv_astore (lv' := [(4, .ref (a (6 + 2 * x17))), (3, .ref (a (6 + 2 * x5))), (0, .ref (a 0)), (1, .int p0), (2, .int p1)]) hx hb dX5_change_104 hl (by decide) rfl (fun ls hl => ?_)
            refine lv_aload hx hb dX5_change_106 (lv_at hl 0 rfl) ?_
            refine lv_ifnonnull (tgt := 121) hx hb dX5_change_108 (by decide) ?_
            refine lv_aload hx hb dX5_change_121 (lv_at hl 0 rfl) ?_
            obtain ⟨x25, hd24⟩ := ex1 (D_X0_byFirstRow r18 q20 f22 x17)
            replace hR := bnd1_use hd24 hR
            refine call_S (n := 1) (As := [.ref (a (6 + 2 * x17))]) (rest := []) hX hB (k_X0_byFirstRow κ l a r18 q20 f22 x17 hz x25 hd24) yk_X0_byFirstRow wm_1_180 wm_1_181 wm_1_29 wm_1_182 ⟨Nat.le_of_ble_eq_true rfl, Nat.le_of_ble_eq_true rfl⟩ ⟨Nat.le_of_ble_eq_true rfl, Nat.le_of_ble_eq_true rfl⟩ rfl hl.1 rfl (Nat.le_of_ble_eq_true rfl) dX5_change_123 (fun o w' H locs hp hB => ?_)
            obtain ⟨rfl, rfl⟩ := hp
            refine W.eq (g2 := F0 m 126 ls [.long x25]) rfl ?_
            refine lv_l2i hx hb dX5_change_126 rfl ?_
            rw [← hQ]
            exact vx_ret ( end_i hX hB hA3 rfl rfl (by obtain ⟨rfl, rfl, rfl, rfl, rfl⟩ := pr5 hR; exact ⟨rfl, rfl, (fun h => ho19 ((fun h => h) h)), (hq21.trans rfl), rfl⟩) (Nat.le_of_ble_eq_true rfl) (Nat.le_of_ble_eq_true rfl) dX5_change_127)
        refine lv_icmp_ne (tgt := 91) hx hb dX5_change_84 (by decide) (fun c26 => ?_) (fun c26 => ?_)
        · replace hR := ifn c26 hR
          refine lv_iload_n hx hb dX5_change_91 rfl (lv_at hl 3 rfl) ?_
          refine lv_iconst (v := 3) hx hb dX5_change_92 (by decide) ?_
          refine lv_icmp_ne (tgt := 100) hx hb dX5_change_93 (by decide) (fun c27 => ?_) (fun c27 => ?_)
          · replace hR := ifn c27 hR
            refine lv_iconst (v := 4) hx hb dX5_change_100 (by decide) ?_
            exact jn101 4 _ _  hR hB _ hl
          · replace hR := ifp c27 hR
            refine lv_iconst (v := 3) hx hb dX5_change_96 (by decide) ?_
            refine lv_goto (tgt := 101) hx hb dX5_change_97 (by decide) ?_
            exact jn101 3 _ _  hR hB _ hl
        · replace hR := ifp c26 hR
          refine lv_iconst (v := 1) hx hb dX5_change_87 (by decide) ?_
          refine lv_goto (tgt := 101) hx hb dX5_change_88 (by decide) ?_
          exact jn101 1 _ _  hR hB _ hl
      · replace hR := ifp c13 hR
        refine lv_aload_n hx hb dX5_change_56 rfl (lv_at hl 1 rfl) ?_
        refine gf hX hB cw0 rfl in5 4 (by decide) wm_1_141 rfl rfl dX5_change_57 ?_
        refine lv_aload_n hx hb dX5_change_60 rfl (lv_at hl 0 rfl) ?_
        obtain ⟨r29, q31, f33, hd28⟩ := ex3 (D_X1_walk r q f x5)
        replace hR := bnd3_use hd28 hR
        refine call_V (n := 1) (As := [.ref (a (6 + 2 * x5))]) (rest := []) hX hB (k_X1_walk κ l a r q f x5 (lt15 hx5) r29 q31 f33 hd28) ⟨rfl, yk_X1_walk⟩ wm_2_72 wm_2_73 wm_2_74 wm_1_4 wm_2_75 ⟨Nat.le_of_ble_eq_true rfl, Nat.le_of_ble_eq_true rfl⟩ ⟨Nat.le_of_ble_eq_true rfl, Nat.le_of_ble_eq_true rfl⟩ cw3 rfl rfl rfl hl.1 rfl (Nat.le_of_ble_eq_true rfl) dX5_change_61 (fun o w' H locs hp hB => ?_)
        obtain ⟨rfl, ho30, hq32, rfl⟩ := hp
        refine W.eq (g2 := F0 m 64 ls []) rfl ?_
        refine lv_aload_n hx hb dX5_change_64 rfl (lv_at hl 1 rfl) ?_
        refine gf hX hB cw0 rfl in5 4 (by decide) wm_1_141 rfl rfl dX5_change_65 ?_
        refine gfN hX hB cw3 rfl in1 3 (by decide) wn_1_105 rfl rfl dX5_change_68 ?_
        refine lv_if_eq (tgt := 78) hx hb dX5_change_71 (by decide) (fun c34 => ?_) (fun c34 => ?_)
        · replace hR := ifp c34 hR
          refine lv_iconst (v := 0) hx hb dX5_change_78 (by decide) ?_
          rw [← hQ]
          exact vx_ret ( end_i hX hB hA3 rfl rfl (by obtain ⟨rfl, rfl, rfl, rfl, rfl⟩ := pr5 hR; exact ⟨rfl, rfl, (fun h => ho30 ((fun h => h) h)), (hq32.trans rfl), rfl⟩) (Nat.le_of_ble_eq_true rfl) (Nat.le_of_ble_eq_true rfl) dX5_change_79)
        · replace hR := ifn c34 hR
          refine lv_iconst (v := 1) hx hb dX5_change_74 (by decide) ?_
          refine lv_goto (tgt := 79) hx hb dX5_change_75 (by decide) ?_
          rw [← hQ]
          exact vx_ret ( end_i hX hB hA3 rfl rfl (by obtain ⟨rfl, rfl, rfl, rfl, rfl⟩ := pr5 hR; exact ⟨rfl, rfl, (fun h => ho30 ((fun h => h) h)), (hq32.trans rfl), rfl⟩) (Nat.le_of_ble_eq_true rfl) (Nat.le_of_ble_eq_true rfl) dX5_change_79)
    · replace hR := ifp c12 hR
      refine lv_aload_n hx hb dX5_change_27 rfl (lv_at hl 1 rfl) ?_
      refine gf hX hB cw0 rfl in5 3 (by decide) wm_1_140 rfl rfl dX5_change_28 ?_
      refine lv_aload_n hx hb dX5_change_31 rfl (lv_at hl 0 rfl) ?_
      obtain ⟨r36, q38, f40, hd35⟩ := ex3 (D_X4_walk r q f x5)
      replace hR := bnd3_use hd35 hR
      refine call_V (n := 1) (As := [.ref (a (6 + 2 * x5))]) (rest := []) hX hB (k_X4_walk κ l a r q f x5 (lt15 hx5) r36 q38 f40 hd35) ⟨rfl, yk_X4_walk⟩ wm_1_200 wm_1_201 wm_1_202 wm_1_3 wm_1_203 ⟨Nat.le_of_ble_eq_true rfl, Nat.le_of_ble_eq_true rfl⟩ ⟨Nat.le_of_ble_eq_true rfl, Nat.le_of_ble_eq_true rfl⟩ cw2 rfl rfl rfl hl.1 rfl (Nat.le_of_ble_eq_true rfl) dX5_change_32 (fun o w' H locs hp hB => ?_)
      obtain ⟨rfl, ho37, hq39, rfl⟩ := hp
      refine W.eq (g2 := F0 m 35 ls []) rfl ?_
      refine lv_aload_n hx hb dX5_change_35 rfl (lv_at hl 1 rfl) ?_
      refine gf hX hB cw0 rfl in5 3 (by decide) wm_1_140 rfl rfl dX5_change_36 ?_
      refine gfN hX hB cw2 rfl in4 2 (by decide) wn_1_79 rfl rfl dX5_change_39 ?_
      refine lv_if_eq (tgt := 49) hx hb dX5_change_42 (by decide) (fun c41 => ?_) (fun c41 => ?_)
      · replace hR := ifp c41 hR
        refine lv_iconst (v := 0) hx hb dX5_change_49 (by decide) ?_
        rw [← hQ]
        exact vx_ret ( end_i hX hB hA3 rfl rfl (by obtain ⟨rfl, rfl, rfl, rfl, rfl⟩ := pr5 hR; exact ⟨rfl, rfl, (fun h => ho37 ((fun h => h) h)), (hq39.trans rfl), rfl⟩) (Nat.le_of_ble_eq_true rfl) (Nat.le_of_ble_eq_true rfl) dX5_change_50)
      · replace hR := ifn c41 hR
        refine lv_iconst (v := 1) hx hb dX5_change_45 (by decide) ?_
        refine lv_goto (tgt := 50) hx hb dX5_change_46 (by decide) ?_
        rw [← hQ]
        exact vx_ret ( end_i hX hB hA3 rfl rfl (by obtain ⟨rfl, rfl, rfl, rfl, rfl⟩ := pr5 hR; exact ⟨rfl, rfl, (fun h => ho37 ((fun h => h) h)), (hq39.trans rfl), rfl⟩) (Nat.le_of_ble_eq_true rfl) (Nat.le_of_ble_eq_true rfl) dX5_change_50)
  refine lv_if_lt (tgt := 19) hx hb dX5_change_7 (by decide) (fun c42 => ?_) (fun c42 => ?_)
  · replace hR := ifp c42 hR
    refine lv_iconst (v := 0) hx hb dX5_change_19 (by decide) ?_
    exact jn20 0 _ _ (Or.inl rfl) hR hB _ hl
  · replace hR := ifn c42 hR
    refine lv_iload_n hx hb dX5_change_10 rfl (lv_at hl 3 rfl) ?_
    refine lv_iconst (v := 4) hx hb dX5_change_11 (by decide) ?_
    refine lv_icmp_gt (tgt := 19) hx hb dX5_change_12 (by decide) (fun c43 => ?_) (fun c43 => ?_)
    · replace hR := ifp c43 hR
      refine lv_iconst (v := 0) hx hb dX5_change_19 (by decide) ?_
      exact jn20 0 _ _ (Or.inl rfl) hR hB _ hl
    · replace hR := ifn c43 hR
      refine lv_iconst (v := 1) hx hb dX5_change_15 (by decide) ?_
      refine lv_goto (tgt := 20) hx hb dX5_change_16 (by decide) ?_
      exact jn20 1 _ _ (Or.inr rfl) hR hB _ hl
noncomputable def D_X5_isSolvable_134 (p2 : Int32) (x5 : Nat) (x10 : Nat) (r26 : Nat → Int32) (q28 : Nat → Int32) (nn : Nat) : Int32 → (Nat → Nat → Int64) → String × Int32 × (Nat → Int32) × (Nat → Int32) × (Nat → Nat → Int64) := @Nat.rec (fun _ => Int32 → (Nat → Nat → Int64) → String × Int32 × (Nat → Int32) × (Nat → Int32) × (Nat → Nat → Int64)) (fun _ _ => default) (fun _ lb134 (y7_134 : Int32) (f_134 : Nat → Nat → Int64) => (if (r26 (2 * x5)) ≤ y7_134 then bnd1 (D_X0_findRank r26 q28 f_134 x5) (fun (x80 : Int32) => bnd1 (D_X0_findRank r26 q28 f_134 4) (fun (x82 : Int32) => (if x82 = x80 then bnd1 (D_X0_findDivisor r26 q28 f_134 4 x80) (fun (x85 : Int64) => bnd1 (D_X0_findDivisor r26 q28 f_134 x5 x80) (fun (x87 : Int64) => (if (lg_cmp x85 x87) = 0 then ("", 1, r26, q28, f_134) else ("", 0, r26, q28, f_134)))) else ("", 0, r26, q28, f_134)))) else bnd1 (D_X3_get r26 q28 f_134 x10 y7_134 p2) (fun (x90 : Int64) => bnd1 (D_X3_set r26 q28 f_134 4 y7_134 (r26 (2 * x5 + 1)) x90) (fun (f92 : Nat → Nat → Int64) => (lb134 (y7_134 + 1) f92))))) nn
theorem D_X5_isSolvable_134_s {p2 : Int32} {x5 : Nat} {x10 : Nat} {r26 : Nat → Int32} {q28 : Nat → Int32} {nn : Nat} {y7_134 : Int32} {f_134 : Nat → Nat → Int64} : D_X5_isSolvable_134 p2 x5 x10 r26 q28 (nn + 1) y7_134 f_134 = (if (r26 (2 * x5)) ≤ y7_134 then bnd1 (D_X0_findRank r26 q28 f_134 x5) (fun (x80 : Int32) => bnd1 (D_X0_findRank r26 q28 f_134 4) (fun (x82 : Int32) => (if x82 = x80 then bnd1 (D_X0_findDivisor r26 q28 f_134 4 x80) (fun (x85 : Int64) => bnd1 (D_X0_findDivisor r26 q28 f_134 x5 x80) (fun (x87 : Int64) => (if (lg_cmp x85 x87) = 0 then ("", 1, r26, q28, f_134) else ("", 0, r26, q28, f_134)))) else ("", 0, r26, q28, f_134)))) else bnd1 (D_X3_get r26 q28 f_134 x10 y7_134 p2) (fun (x90 : Int64) => bnd1 (D_X3_set r26 q28 f_134 4 y7_134 (r26 (2 * x5 + 1)) x90) (fun (f92 : Nat → Nat → Int64) => ((D_X5_isSolvable_134 p2 x5 x10 r26 q28 nn) (y7_134 + 1) f92)))) := rfl
noncomputable def D_X5_isSolvable_j85 (p2 : Int32) (x10 : Nat) (r94 : Nat → Int32) (q96 : Nat → Int32) (f98 : Nat → Nat → Int64) (z0_85 : Int32) : String × Int32 × (Nat → Int32) × (Nat → Int32) × (Nat → Nat → Int64) := bnd1 (D_X5_needState r94 q96 f98 z0_85) (fun (E101 : String) => (if E101 = "" then bnd4 (D_X2_divide r94 q96 f98 x10 p2) (fun (x105 : Int32) (r106 : Nat → Int32) (q108 : Nat → Int32) (f110 : Nat → Nat → Int64) => ("", x105, r106, q108, f110)) else (E101, 0, r94, q96, f98)))
theorem D_X5_isSolvable_j85_s {p2 : Int32} {x10 : Nat} {r94 : Nat → Int32} {q96 : Nat → Int32} {f98 : Nat → Nat → Int64} {z0_85 : Int32} : D_X5_isSolvable_j85 p2 x10 r94 q96 f98 z0_85 = bnd1 (D_X5_needState r94 q96 f98 z0_85) (fun (E101 : String) => (if E101 = "" then bnd4 (D_X2_divide r94 q96 f98 x10 p2) (fun (x105 : Int32) (r106 : Nat → Int32) (q108 : Nat → Int32) (f110 : Nat → Nat → Int64) => ("", x105, r106, q108, f110)) else (E101, 0, r94, q96, f98))) := rfl
noncomputable def D_X5_isSolvable_j53 (r : Nat → Int32) (q : Nat → Int32) (f : Nat → Nat → Int64) (p2 : Int32) (p3 : Int32) (x5 : Nat) (x10 : Nat) (z0_53 : Int32) : String × Int32 × (Nat → Int32) × (Nat → Int32) × (Nat → Nat → Int64) := bnd1 (D_X5_needArgument r q f z0_53) (fun (E21 : String) => (if E21 = "" then (if p3 = 0 then bnd3 (D_X1_walk r q f x5) (fun (r94 : Nat → Int32) (q96 : Nat → Int32) (f98 : Nat → Nat → Int64) => (if (q96 1) = 0 then (D_X5_isSolvable_j85 p2 x10 r94 q96 f98 1) else (D_X5_isSolvable_j85 p2 x10 r94 q96 f98 0))) else bnd3 (D_X3_reshape r q f 4 (r (2 * x5)) ((r (2 * x5 + 1)) + 1)) (fun (r26 : Nat → Int32) (q28 : Nat → Int32) (f30 : Nat → Nat → Int64) => bnd1 (D_X3_takeOver r26 q28 f30 4 x5) (fun (f32 : Nat → Nat → Int64) => (D_X5_isSolvable_134 p2 x5 x10 r26 q28 (gap (r26 (2 * x5)) 0 + 1) 0 f32)))) else (E21, 0, r, q, f)))
theorem D_X5_isSolvable_j53_s {r : Nat → Int32} {q : Nat → Int32} {f : Nat → Nat → Int64} {p2 : Int32} {p3 : Int32} {x5 : Nat} {x10 : Nat} {z0_53 : Int32} : D_X5_isSolvable_j53 r q f p2 p3 x5 x10 z0_53 = bnd1 (D_X5_needArgument r q f z0_53) (fun (E21 : String) => (if E21 = "" then (if p3 = 0 then bnd3 (D_X1_walk r q f x5) (fun (r94 : Nat → Int32) (q96 : Nat → Int32) (f98 : Nat → Nat → Int64) => (if (q96 1) = 0 then (D_X5_isSolvable_j85 p2 x10 r94 q96 f98 1) else (D_X5_isSolvable_j85 p2 x10 r94 q96 f98 0))) else bnd3 (D_X3_reshape r q f 4 (r (2 * x5)) ((r (2 * x5 + 1)) + 1)) (fun (r26 : Nat → Int32) (q28 : Nat → Int32) (f30 : Nat → Nat → Int64) => bnd1 (D_X3_takeOver r26 q28 f30 4 x5) (fun (f32 : Nat → Nat → Int64) => (D_X5_isSolvable_134 p2 x5 x10 r26 q28 (gap (r26 (2 * x5)) 0 + 1) 0 f32)))) else (E21, 0, r, q, f))) := rfl
noncomputable def D_X5_isSolvable (r : Nat → Int32) (q : Nat → Int32) (f : Nat → Nat → Int64) (p0 : Int32) (p1 : Int32) (p2 : Int32) (p3 : Int32) : String × Int32 × (Nat → Int32) × (Nat → Int32) × (Nat → Nat → Int64) := bnd2 (D_X5_needTable r q f p0) (fun (E2 : String) (x5 : Nat) => (if E2 = "" then bnd2 (D_X5_needTable r q f p1) (fun (E7 : String) (x10 : Nat) => (if E7 = "" then bnd1 (D_X3_hasLine r q f x10 1 p2) (fun (x12 : Int32) => bnd1 (D_X5_needIndex r q f x12) (fun (E14 : String) => (if E14 = "" then (if (r (2 * x5)) = (r (2 * x10)) then (if p3 = 0 then (D_X5_isSolvable_j53 r q f p2 p3 x5 x10 1) else (if p3 = 1 then (D_X5_isSolvable_j53 r q f p2 p3 x5 x10 1) else (D_X5_isSolvable_j53 r q f p2 p3 x5 x10 0))) else (D_X5_isSolvable_j53 r q f p2 p3 x5 x10 0)) else (E14, 0, r, q, f)))) else (E7, 0, r, q, f))) else (E2, 0, r, q, f)))
theorem D_X5_isSolvable_s {r : Nat → Int32} {q : Nat → Int32} {f : Nat → Nat → Int64} {p0 : Int32} {p1 : Int32} {p2 : Int32} {p3 : Int32} : D_X5_isSolvable r q f p0 p1 p2 p3 = bnd2 (D_X5_needTable r q f p0) (fun (E2 : String) (x5 : Nat) => (if E2 = "" then bnd2 (D_X5_needTable r q f p1) (fun (E7 : String) (x10 : Nat) => (if E7 = "" then bnd1 (D_X3_hasLine r q f x10 1 p2) (fun (x12 : Int32) => bnd1 (D_X5_needIndex r q f x12) (fun (E14 : String) => (if E14 = "" then (if (r (2 * x5)) = (r (2 * x10)) then (if p3 = 0 then (D_X5_isSolvable_j53 r q f p2 p3 x5 x10 1) else (if p3 = 1 then (D_X5_isSolvable_j53 r q f p2 p3 x5 x10 1) else (D_X5_isSolvable_j53 r q f p2 p3 x5 x10 0))) else (D_X5_isSolvable_j53 r q f p2 p3 x5 x10 0)) else (E14, 0, r, q, f)))) else (E7, 0, r, q, f))) else (E2, 0, r, q, f))) := rfl
set_option maxHeartbeats 4000000 in
set_option maxRecDepth 100000 in
theorem k_X5_isSolvable (κ : Kt) (l : Launch) (hst : l.stackTraces = false) (a : Nat → Nat) (r q : Nat → Int32) (f : Nat → Nat → Int64) (p0 : Int32) (p1 : Int32) (p2 : Int32) (p3 : Int32) (hok : okr r) (o_E : String) (o_x : Int32) (o_r : Nat → Int32) (o_q : Nat → Int32) (o_f : Nat → Nat → Int64) (hR : D_X5_isSolvable r q f p0 p1 p2 p3 = (o_E, o_x, o_r, o_q, o_f)) : CX κ l yX5_isSolvable cX5_isSolvable 8 (some .boolean) 7 193 5 30 [.ref (a 0), .int p0, .int p1, .int p2, .int p3] (cw κ a r q f) (fun o w' => o_E = "" ∧ o = some (.int o_x) ∧ (o_x = 0 ∨ o_x = 1) ∧ (okr r → okr o_r) ∧ o_q 4 = q 4 ∧ w' = cw κ a o_r o_q o_f) (fun E w' => o_E = E ∧ o_E ∈ (["java/lang/IndexOutOfBoundsException", "java/lang/IllegalArgumentException", "java/lang/IllegalStateException"] : List String) ∧ (okr r → okr o_r) ∧ o_q 4 = q 4 ∧ w' = cw κ a o_r o_q o_f) := by
  refine CX_begin (by decide) (Nat.le_of_ble_eq_true rfl) ?_
  intro p e s m args below meth c A Q hX hne hA3 hQ hB ls hl
  have hx := hX.1.1
  have hb := hX.1.2.1
  have hl : lv_has ls 8 [(0, .ref (a 0)), (1, .int p0), (2, .int p1), (3, .int p2), (4, .int p3)] := hl
  replace hR := (D_X5_isSolvable_s).symm.trans hR
  refine lv_aload_n hx hb dX5_isSolvable_0 rfl (lv_at hl 0 rfl) ?_
  refine lv_iload_n hx hb dX5_isSolvable_1 rfl (lv_at hl 1 rfl) ?_
  obtain ⟨E2, x5, hd1⟩ := ex2 (D_X5_needTable r q f p0)
  replace hR := bnd2_use hd1 hR
  refine CX_after2 hX hB (run_XV (n := 1) (As := [.int p0]) (rest := []) hX hB (k_X5_needTable κ l hst a r q f p0 E2 x5 hd1) ⟨rfl, yk_X5_needTable⟩ wm_2_165 wm_2_167 wp_17 wm_1_1 wm_2_168 ⟨Nat.le_of_ble_eq_true rfl, Nat.le_of_ble_eq_true rfl⟩ ⟨Nat.le_of_ble_eq_true rfl, Nat.le_of_ble_eq_true rfl⟩ cw0 rfl rfl rfl hl.1 rfl (Nat.le_of_ble_eq_true rfl) dX5_isSolvable_2) (fun E ce q9 w' H locs hp hB hce hcv hcl => ?_) (fun o w' H locs hp hB => ?_)
  · obtain ⟨he3, hE4, rfl⟩ := hp
    replace hR := ifn (ne_mt hE4 (by decide)) hR
    rw [← hQ]
    exact thrown_on hX hne hB hA3 hce hcv hcl (by obtain ⟨rfl, rfl, rfl, rfl, rfl⟩ := pr5 hR; exact ⟨he3, ((by decide : ∀ x ∈ (["java/lang/IndexOutOfBoundsException"] : List String), x ∈ (["java/lang/IndexOutOfBoundsException", "java/lang/IllegalArgumentException", "java/lang/IllegalStateException"] : List String)) _ hE4), (fun h => h), rfl, rfl⟩) (Nat.le_of_ble_eq_true rfl) (Nat.le_of_ble_eq_true rfl)
  obtain ⟨he3, hx5, rfl, rfl⟩ := hp
  replace hR := ifp he3 hR
  refine W.eq (g2 := F0 m 5 ls [.ref (a (6 + 2 * x5))]) rfl ?_
  refine lv_astore (lv' := [(5, .ref (a (6 + 2 * x5))), (0, .ref (a 0)), (1, .int p0), (2, .int p1), (3, .int p2), (4, .int p3)]) hx hb dX5_isSolvable_5 hl (by decide) rfl (fun ls hl => ?_)
  refine lv_aload_n hx hb dX5_isSolvable_7 rfl (lv_at hl 1 rfl) ?_
  refine lv_iload_n hx hb dX5_isSolvable_8 rfl (lv_at hl 3 rfl) ?_
  obtain ⟨E7, x10, hd6⟩ := ex2 (D_X5_needTable r q f p1)
  replace hR := bnd2_use hd6 hR
  refine CX_after2 hX hB (run_XV (n := 1) (As := [.int p1]) (rest := []) hX hB (k_X5_needTable κ l hst a r q f p1 E7 x10 hd6) ⟨rfl, yk_X5_needTable⟩ wm_2_165 wm_2_167 wp_17 wm_1_1 wm_2_168 ⟨Nat.le_of_ble_eq_true rfl, Nat.le_of_ble_eq_true rfl⟩ ⟨Nat.le_of_ble_eq_true rfl, Nat.le_of_ble_eq_true rfl⟩ cw0 rfl rfl rfl hl.1 rfl (Nat.le_of_ble_eq_true rfl) dX5_isSolvable_9) (fun E ce q9 w' H locs hp hB hce hcv hcl => ?_) (fun o w' H locs hp hB => ?_)
  · obtain ⟨he8, hE9, rfl⟩ := hp
    replace hR := ifn (ne_mt hE9 (by decide)) hR
    rw [← hQ]
    exact thrown_on hX hne hB hA3 hce hcv hcl (by obtain ⟨rfl, rfl, rfl, rfl, rfl⟩ := pr5 hR; exact ⟨he8, ((by decide : ∀ x ∈ (["java/lang/IndexOutOfBoundsException"] : List String), x ∈ (["java/lang/IndexOutOfBoundsException", "java/lang/IllegalArgumentException", "java/lang/IllegalStateException"] : List String)) _ hE9), (fun h => h), rfl, rfl⟩) (Nat.le_of_ble_eq_true rfl) (Nat.le_of_ble_eq_true rfl)
  obtain ⟨he8, hx10, rfl, rfl⟩ := hp
  replace hR := ifp he8 hR
  refine W.eq (g2 := F0 m 12 ls [.ref (a (6 + 2 * x10))]) rfl ?_
  refine lv_astore (lv' := [(6, .ref (a (6 + 2 * x10))), (5, .ref (a (6 + 2 * x5))), (0, .ref (a 0)), (1, .int p0), (2, .int p1), (3, .int p2), (4, .int p3)]) hx hb dX5_isSolvable_12 hl (by decide) rfl (fun ls hl => ?_)
  refine lv_aload hx hb dX5_isSolvable_14 (lv_at hl 0 rfl) ?_
  refine lv_iconst (v := 1) hx hb dX5_isSolvable_16 (by decide) ?_
  refine lv_iload_n hx hb dX5_isSolvable_17 rfl (lv_at hl 5 rfl) ?_
  obtain ⟨x12, hd11⟩ := ex1 (D_X3_hasLine r q f x10 1 p2)
  replace hR := bnd1_use hd11 hR
  refine call_V (n := 2) (As := [.int 1, .int p2]) (rest := []) hX hB (k_X3_hasLine κ l a r q f x10 1 p2 (lt15 hx10) x12 hd11) ⟨rfl, yk_X3_hasLine⟩ wm_3_43 wm_3_44 wm_3_45 wm_1_2 wm_3_46 ⟨Nat.le_of_ble_eq_true rfl, Nat.le_of_ble_eq_true rfl⟩ ⟨Nat.le_of_ble_eq_true rfl, Nat.le_of_ble_eq_true rfl⟩ (cwG (i := x10) (lt15 hx10)) rfl rfl rfl hl.1 rfl (Nat.le_of_ble_eq_true rfl) dX5_isSolvable_18 (fun o w' H locs hp hB => ?_)
  obtain ⟨rfl, bx12, rfl⟩ := hp
  refine W.eq (g2 := F0 m 21 ls [.int x12]) rfl ?_
  obtain ⟨E14, hd13⟩ := ex1 (D_X5_needIndex r q f x12)
  replace hR := bnd1_use hd13 hR
  refine CX_after2 hX hB (run_XS (n := 1) (As := [.int x12]) (rest := []) hX hB (k_X5_needIndex κ l hst a r q f x12 E14 hd13) yk_X5_needIndex wm_3_47 wm_3_48 wm_1_1 wm_3_49 ⟨Nat.le_of_ble_eq_true rfl, Nat.le_of_ble_eq_true rfl⟩ ⟨Nat.le_of_ble_eq_true rfl, Nat.le_of_ble_eq_true rfl⟩ rfl hl.1 rfl (Nat.le_of_ble_eq_true rfl) dX5_isSolvable_21) (fun E ce q9 w' H locs hp hB hce hcv hcl => ?_) (fun o w' H locs hp hB => ?_)
  · obtain ⟨he15, hE16, rfl⟩ := hp
    replace hR := ifn (ne_mt hE16 (by decide)) hR
    rw [← hQ]
    exact thrown_on hX hne hB hA3 hce hcv hcl (by obtain ⟨rfl, rfl, rfl, rfl, rfl⟩ := pr5 hR; exact ⟨he15, ((by decide : ∀ x ∈ (["java/lang/IndexOutOfBoundsException"] : List String), x ∈ (["java/lang/IndexOutOfBoundsException", "java/lang/IllegalArgumentException", "java/lang/IllegalStateException"] : List String)) _ hE16), (fun h => h), rfl, rfl⟩) (Nat.le_of_ble_eq_true rfl) (Nat.le_of_ble_eq_true rfl)
  obtain ⟨he15, rfl, rfl⟩ := hp
  replace hR := ifp he15 hR
  refine W.eq (g2 := F0 m 24 ls []) rfl ?_
  refine lv_aload hx hb dX5_isSolvable_24 (lv_at hl 1 rfl) ?_
  refine gfN hX hB (cwG (i := x5) (lt15 hx5)) rfl in3 1 (by decide) wn_1_51 rfl rfl dX5_isSolvable_26 ?_
  refine lv_aload hx hb dX5_isSolvable_29 (lv_at hl 0 rfl) ?_
  refine gfN hX hB (cwG (i := x10) (lt15 hx10)) rfl in3 1 (by decide) wn_1_51 rfl rfl dX5_isSolvable_31 ?_
  have jn53 : ∀ (z0_53 : Int32) (H : Heap) (locs : List Loc), (z0_53 = 0 ∨ z0_53 = 1) → D_X5_isSolvable_j53 r q f p2 p3 x5 x10 z0_53 = (o_E, o_x, o_r, o_q, o_f) → Bd κ A s (cw κ a r q f) H locs → ∀ ls : Array Slot, lv_has ls 8 [(6, .ref (a (6 + 2 * x10))), (5, .ref (a (6 + 2 * x5))), (0, .ref (a 0)), (1, .int p0), (2, .int p1), (3, .int p2), (4, .int p3)] → W p l e (Rm 7 193 5 30) s m args below meth c H locs 3 18 Q (F0 m 53 ls [.int z0_53]) := by
    intro z0_53 H locs hz0_53 hR hB ls hl
    replace hR := (D_X5_isSolvable_j53_s).symm.trans hR
    obtain ⟨E21, hd20⟩ := ex1 (D_X5_needArgument r q f z0_53)
    replace hR := bnd1_use hd20 hR
    refine CX_after2 hX hB (run_XS (n := 1) (As := [.int z0_53]) (rest := []) hX hB (k_X5_needArgument κ l hst a r q f z0_53 E21 hd20) yk_X5_needArgument wm_3_0 wm_3_1 wm_1_1 wm_3_2 ⟨Nat.le_of_ble_eq_true rfl, Nat.le_of_ble_eq_true rfl⟩ ⟨Nat.le_of_ble_eq_true rfl, Nat.le_of_ble_eq_true rfl⟩ rfl hl.1 rfl (Nat.le_of_ble_eq_true rfl) dX5_isSolvable_53) (fun E ce q9 w' H locs hp hB hce hcv hcl => ?_) (fun o w' H locs hp hB => ?_)
    · obtain ⟨he22, hE23, rfl⟩ := hp
      replace hR := ifn (ne_mt hE23 (by decide)) hR
      rw [← hQ]
      exact thrown_on hX hne hB hA3 hce hcv hcl (by obtain ⟨rfl, rfl, rfl, rfl, rfl⟩ := pr5 hR; exact ⟨he22, ((by decide : ∀ x ∈ (["java/lang/IllegalArgumentException"] : List String), x ∈ (["java/lang/IndexOutOfBoundsException", "java/lang/IllegalArgumentException", "java/lang/IllegalStateException"] : List String)) _ hE23), (fun h => h), rfl, rfl⟩) (Nat.le_of_ble_eq_true rfl) (Nat.le_of_ble_eq_true rfl)
    obtain ⟨he22, rfl, rfl⟩ := hp
    replace hR := ifp he22 hR
    refine W.eq (g2 := F0 m 56 ls []) rfl ?_
    refine lv_iload hx hb dX5_isSolvable_56 (lv_at hl 6 rfl) ?_
    refine lv_if_ne (tgt := 103) hx hb dX5_isSolvable_58 (by decide) (fun c24 => ?_) (fun c24 => ?_)
    · replace hR := ifn c24 hR
      refine lv_aload_n hx hb dX5_isSolvable_103 rfl (lv_at hl 2 rfl) ?_
      refine gf hX hB cw0 rfl in5 1 (by decide) wm_1_138 rfl rfl dX5_isSolvable_104 ?_
      refine lv_aload hx hb dX5_isSolvable_107 (lv_at hl 1 rfl) ?_
      refine gfN hX hB (cwG (i := x5) (lt15 hx5)) rfl in3 1 (by decide) wn_1_51 rfl rfl dX5_isSolvable_109 ?_
      refine lv_aload hx hb dX5_isSolvable_112 (lv_at hl 1 rfl) ?_
      refine gfN hX hB (cwG (i := x5) (lt15 hx5)) rfl in3 2 (by decide) wn_1_57 rfl rfl dX5_isSolvable_114 ?_
      refine lv_iconst (v := 1) hx hb dX5_isSolvable_117 (by decide) ?_
      refine lv_iadd hx hb dX5_isSolvable_118 ?_
      obtain ⟨r26, q28, f30, hd25⟩ := ex3 (D_X3_reshape r q f 4 (r (2 * x5)) ((r (2 * x5 + 1)) + 1))
      replace hR := bnd3_use hd25 hR
      refine call_V (n := 2) (As := [.int (r (2 * x5)), .int ((r (2 * x5 + 1)) + 1)]) (rest := []) hX hB (k_X3_reshape κ l a r q f 4 (r (2 * x5)) ((r (2 * x5 + 1)) + 1) (by decide) r26 q28 f30 hd25) ⟨rfl, yk_X3_reshape⟩ wm_3_23 wm_1_213 wm_1_214 wm_1_2 wm_1_215 ⟨Nat.le_of_ble_eq_true rfl, Nat.le_of_ble_eq_true rfl⟩ ⟨Nat.le_of_ble_eq_true rfl, Nat.le_of_ble_eq_true rfl⟩ (cwG (i := 4) (by decide)) rfl rfl rfl hl.1 rfl (Nat.le_of_ble_eq_true rfl) dX5_isSolvable_119 (fun o w' H locs hp hB => ?_)
      obtain ⟨rfl, ho27, hq29, rfl⟩ := hp
      refine W.eq (g2 := F0 m 122 ls []) rfl ?_
      refine lv_aload_n hx hb dX5_isSolvable_122 rfl (lv_at hl 2 rfl) ?_
      refine gf hX hB cw0 rfl in5 1 (by decide) wm_1_138 rfl rfl dX5_isSolvable_123 ?_
      refine lv_aload hx hb dX5_isSolvable_126 (lv_at hl 1 rfl) ?_
      obtain ⟨f32, hd31⟩ := ex1 (D_X3_takeOver r26 q28 f30 4 x5)
      replace hR := bnd1_use hd31 hR
      refine call_V (n := 1) (As := [.ref (a (6 + 2 * x5))]) (rest := []) hX hB (k_X3_takeOver κ l a r26 q28 f30 4 x5 (by decide) (lt15 hx5) f32 hd31) ⟨rfl, yk_X3_takeOver⟩ wm_3_135 wm_3_136 wm_3_137 wm_1_2 wm_3_138 ⟨Nat.le_of_ble_eq_true rfl, Nat.le_of_ble_eq_true rfl⟩ ⟨Nat.le_of_ble_eq_true rfl, Nat.le_of_ble_eq_true rfl⟩ (cwG (i := 4) (by decide)) rfl rfl rfl hl.1 rfl (Nat.le_of_ble_eq_true rfl) dX5_isSolvable_128 (fun o w' H locs hp hB => ?_)
      obtain ⟨rfl, rfl⟩ := hp
      refine W.eq (g2 := F0 m 131 ls []) rfl ?_
      refine lv_iconst (v := 0) hx hb dX5_isSolvable_131 (by decide) ?_
      refine lv_istore (lv' := [(7, .int 0), (6, .ref (a (6 + 2 * x10))), (5, .ref (a (6 + 2 * x5))), (0, .ref (a 0)), (1, .int p0), (2, .int p1), (3, .int p2), (4, .int p3)]) hx hb dX5_isSolvable_132 hl (by decide) rfl (fun ls hl => ?_)
      have lp134 : ∀ (nn134 : Nat) (y7_134 : Int32) (f_134 : Nat → Nat → Int64) (H : Heap) (locs : List Loc), gap (r26 (2 * x5)) y7_134 < nn134 → D_X5_isSolvable_134 p2 x5 x10 r26 q28 nn134 y7_134 f_134 = (o_E, o_x, o_r, o_q, o_f) → Bd κ A s (cw κ a r26 q28 f_134) H locs → ∀ ls : Array Slot, lv_has ls 8 [(7, .int y7_134), (6, .ref (a (6 + 2 * x10))), (5, .ref (a (6 + 2 * x5))), (0, .ref (a 0)), (1, .int p0), (2, .int p1), (3, .int p2), (4, .int p3)] → W p l e (Rm 7 193 5 30) s m args below meth c H locs 4 24 Q (F0 m 134 ls []) := by
        intro nn134
        induction nn134 with
        | zero => intro y7_134 f_134 H locs hμ; exact absurd hμ (Nat.not_lt_zero _)
        | succ nn134 ih134 =>
          intro y7_134 f_134 H locs hμ134 hR hB ls hl
          replace hR := (D_X5_isSolvable_134_s).symm.trans hR
          refine lv_iload hx hb dX5_isSolvable_134 (lv_at hl 0 rfl) ?_
          refine lv_aload hx hb dX5_isSolvable_136 (lv_at hl 2 rfl) ?_
          refine gfN hX hB (cwG (i := x5) (lt15 hx5)) rfl in3 1 (by decide) wn_1_51 rfl rfl dX5_isSolvable_138 ?_
          refine lv_icmp_ge (tgt := 172) hx hb dX5_isSolvable_141 (by decide) (fun c78 => ?_) (fun c78 => ?_)
          · replace hR := ifp c78 hR
            refine lv_aload hx hb dX5_isSolvable_172 (lv_at hl 2 rfl) ?_
            obtain ⟨x80, hd79⟩ := ex1 (D_X0_findRank r26 q28 f_134 x5)
            replace hR := bnd1_use hd79 hR
            refine call_S (n := 1) (As := [.ref (a (6 + 2 * x5))]) (rest := []) hX hB (k_X0_findRank κ l a r26 q28 f_134 x5 (lt15 hx5) ((fun h => ho27 ((fun h => h) h)) hok) x80 hd79) yk_X0_findRank wm_2_52 wm_2_53 wm_1_29 wm_2_54 ⟨Nat.le_of_ble_eq_true rfl, Nat.le_of_ble_eq_true rfl⟩ ⟨Nat.le_of_ble_eq_true rfl, Nat.le_of_ble_eq_true rfl⟩ rfl hl.1 rfl (Nat.le_of_ble_eq_true rfl) dX5_isSolvable_174 (fun o w' H locs hp hB => ?_)
            obtain ⟨rfl, rfl⟩ := hp
            refine W.eq (g2 := F0 m 177 ls [.int x80]) rfl ?_
            refine lv_istore (lv' := [(7, .int x80), (6, .ref (a (6 + 2 * x10))), (5, .ref (a (6 + 2 * x5))), (0, .ref (a 0)), (1, .int p0), (2, .int p1), (3, .int p2), (4, .int p3)]) hx hb dX5_isSolvable_177 hl (by decide) rfl (fun ls hl => ?_)
            refine lv_aload_n hx hb dX5_isSolvable_179 rfl (lv_at hl 3 rfl) ?_
            refine gf hX hB cw0 rfl in5 1 (by decide) wm_1_138 rfl rfl dX5_isSolvable_180 ?_
            obtain ⟨x82, hd81⟩ := ex1 (D_X0_findRank r26 q28 f_134 4)
            replace hR := bnd1_use hd81 hR
            refine call_S (n := 1) (As := [.ref (a 14)]) (rest := []) hX hB (k_X0_findRank κ l a r26 q28 f_134 4 (by decide) ((fun h => ho27 ((fun h => h) h)) hok) x82 hd81) yk_X0_findRank wm_2_52 wm_2_53 wm_1_29 wm_2_54 ⟨Nat.le_of_ble_eq_true rfl, Nat.le_of_ble_eq_true rfl⟩ ⟨Nat.le_of_ble_eq_true rfl, Nat.le_of_ble_eq_true rfl⟩ rfl hl.1 rfl (Nat.le_of_ble_eq_true rfl) dX5_isSolvable_183 (fun o w' H locs hp hB => ?_)
            obtain ⟨rfl, rfl⟩ := hp
            refine W.eq (g2 := F0 m 186 ls [.int x82]) rfl ?_
            refine lv_iload hx hb dX5_isSolvable_186 (lv_at hl 0 rfl) ?_
            refine lv_icmp_ne (tgt := 215) hx hb dX5_isSolvable_188 (by decide) (fun c83 => ?_) (fun c83 => ?_)
            · replace hR := ifn c83 hR
              refine lv_iconst (v := 0) hx hb dX5_isSolvable_215 (by decide) ?_
              rw [← hQ]
              exact vx_ret ( end_i hX hB hA3 rfl rfl (by obtain ⟨rfl, rfl, rfl, rfl, rfl⟩ := pr5 hR; exact ⟨rfl, rfl, Or.inl rfl, (fun h => ho27 ((fun h => h) h)), (hq29.trans rfl), rfl⟩) (Nat.le_of_ble_eq_true rfl) (Nat.le_of_ble_eq_true rfl) dX5_isSolvable_216)
            · replace hR := ifp c83 hR
              refine lv_aload_n hx hb dX5_isSolvable_191 rfl (lv_at hl 3 rfl) ?_
              refine gf hX hB cw0 rfl in5 1 (by decide) wm_1_138 rfl rfl dX5_isSolvable_192 ?_
              refine lv_iload hx hb dX5_isSolvable_195 (lv_at hl 0 rfl) ?_
              obtain ⟨x85, hd84⟩ := ex1 (D_X0_findDivisor r26 q28 f_134 4 x80)
              replace hR := bnd1_use hd84 hR
              refine call_S (n := 2) (As := [.ref (a 14), .int x80]) (rest := []) hX hB (k_X0_findDivisor κ l a r26 q28 f_134 4 x80 (by decide) x85 hd84) yk_X0_findDivisor wm_2_122 wm_2_56 wm_1_29 wm_2_57 ⟨Nat.le_of_ble_eq_true rfl, Nat.le_of_ble_eq_true rfl⟩ ⟨Nat.le_of_ble_eq_true rfl, Nat.le_of_ble_eq_true rfl⟩ rfl hl.1 rfl (Nat.le_of_ble_eq_true rfl) dX5_isSolvable_197 (fun o w' H locs hp hB => ?_)
              obtain ⟨rfl, rfl⟩ := hp
              refine W.eq (g2 := F0 m 200 ls [.long x85]) rfl ?_
              refine lv_aload hx hb dX5_isSolvable_200 (lv_at hl 2 rfl) ?_
              refine lv_iload hx hb dX5_isSolvable_202 (lv_at hl 0 rfl) ?_
              obtain ⟨x87, hd86⟩ := ex1 (D_X0_findDivisor r26 q28 f_134 x5 x80)
              replace hR := bnd1_use hd86 hR
              refine call_S (n := 2) (As := [.ref (a (6 + 2 * x5)), .int x80]) (rest := [.long x85]) hX hB (k_X0_findDivisor κ l a r26 q28 f_134 x5 x80 (lt15 hx5) x87 hd86) yk_X0_findDivisor wm_2_122 wm_2_56 wm_1_29 wm_2_57 ⟨Nat.le_of_ble_eq_true rfl, Nat.le_of_ble_eq_true rfl⟩ ⟨Nat.le_of_ble_eq_true rfl, Nat.le_of_ble_eq_true rfl⟩ rfl hl.1 rfl (Nat.le_of_ble_eq_true rfl) dX5_isSolvable_204 (fun o w' H locs hp hB => ?_)
              obtain ⟨rfl, rfl⟩ := hp
              refine W.eq (g2 := F0 m 207 ls [.long x87, .long x85]) rfl ?_
              refine W.lcmp hx hb dX5_isSolvable_207 ?_
              refine lv_if_ne (tgt := 215) hx hb dX5_isSolvable_208 (by decide) (fun c88 => ?_) (fun c88 => ?_)
              · replace hR := ifn c88 hR
                refine lv_iconst (v := 0) hx hb dX5_isSolvable_215 (by decide) ?_
                rw [← hQ]
                exact vx_ret ( end_i hX hB hA3 rfl rfl (by obtain ⟨rfl, rfl, rfl, rfl, rfl⟩ := pr5 hR; exact ⟨rfl, rfl, Or.inl rfl, (fun h => ho27 ((fun h => h) h)), (hq29.trans rfl), rfl⟩) (Nat.le_of_ble_eq_true rfl) (Nat.le_of_ble_eq_true rfl) dX5_isSolvable_216)
              · replace hR := ifp c88 hR
                refine lv_iconst (v := 1) hx hb dX5_isSolvable_211 (by decide) ?_
                refine lv_goto (tgt := 216) hx hb dX5_isSolvable_212 (by decide) ?_
                rw [← hQ]
                exact vx_ret ( end_i hX hB hA3 rfl rfl (by obtain ⟨rfl, rfl, rfl, rfl, rfl⟩ := pr5 hR; exact ⟨rfl, rfl, Or.inr rfl, (fun h => ho27 ((fun h => h) h)), (hq29.trans rfl), rfl⟩) (Nat.le_of_ble_eq_true rfl) (Nat.le_of_ble_eq_true rfl) dX5_isSolvable_216)
          · replace hR := ifn c78 hR
            refine lv_aload_n hx hb dX5_isSolvable_144 rfl (lv_at hl 3 rfl) ?_
            refine gf hX hB cw0 rfl in5 1 (by decide) wm_1_138 rfl rfl dX5_isSolvable_145 ?_
            refine lv_iload hx hb dX5_isSolvable_148 (lv_at hl 0 rfl) ?_
            refine lv_aload hx hb dX5_isSolvable_150 (lv_at hl 2 rfl) ?_
            refine gfN hX hB (cwG (i := x5) (lt15 hx5)) rfl in3 2 (by decide) wn_1_57 rfl rfl dX5_isSolvable_152 ?_
            refine lv_aload hx hb dX5_isSolvable_155 (lv_at hl 1 rfl) ?_
            refine lv_iload hx hb dX5_isSolvable_157 (lv_at hl 0 rfl) ?_
            refine lv_iload_n hx hb dX5_isSolvable_159 rfl (lv_at hl 6 rfl) ?_
            obtain ⟨x90, hd89⟩ := ex1 (D_X3_get r26 q28 f_134 x10 y7_134 p2)
            replace hR := bnd1_use hd89 hR
            refine call_V (n := 2) (As := [.int y7_134, .int p2]) (rest := [.int (r26 (2 * x5 + 1)), .int y7_134, .ref (a 14)]) hX hB (k_X3_get κ l a r26 q28 f_134 x10 y7_134 p2 (lt15 hx10) x90 hd89) ⟨rfl, yk_X3_get⟩ wm_2_123 wm_1_187 wm_1_188 wm_1_2 wm_1_189 ⟨Nat.le_of_ble_eq_true rfl, Nat.le_of_ble_eq_true rfl⟩ ⟨Nat.le_of_ble_eq_true rfl, Nat.le_of_ble_eq_true rfl⟩ (cwG (i := x10) (lt15 hx10)) rfl rfl rfl hl.1 rfl (Nat.le_of_ble_eq_true rfl) dX5_isSolvable_160 (fun o w' H locs hp hB => ?_)
            obtain ⟨rfl, rfl⟩ := hp
            refine W.eq (g2 := F0 m 163 ls [.long x90, .int (r26 (2 * x5 + 1)), .int y7_134, .ref (a 14)]) rfl ?_
            obtain ⟨f92, hd91⟩ := ex1 (D_X3_set r26 q28 f_134 4 y7_134 (r26 (2 * x5 + 1)) x90)
            replace hR := bnd1_use hd91 hR
            refine call_V (n := 3) (As := [.int y7_134, .int (r26 (2 * x5 + 1)), .long x90]) (rest := []) hX hB (k_X3_set κ l a r26 q28 f_134 4 y7_134 (r26 (2 * x5 + 1)) x90 (by decide) f92 hd91) ⟨rfl, yk_X3_set⟩ wm_3_51 wm_1_223 wm_1_224 wm_1_2 wm_1_225 ⟨Nat.le_of_ble_eq_true rfl, Nat.le_of_ble_eq_true rfl⟩ ⟨Nat.le_of_ble_eq_true rfl, Nat.le_of_ble_eq_true rfl⟩ (cwG (i := 4) (by decide)) rfl rfl rfl hl.1 rfl (Nat.le_of_ble_eq_true rfl) dX5_isSolvable_163 (fun o w' H locs hp hB => ?_)
            obtain ⟨rfl, rfl⟩ := hp
            refine W.eq (g2 := F0 m 166 ls []) rfl ?_
            refine lv_iinc (v := y7_134 + 1) (lv' := [(7, .int (y7_134 + 1)), (6, .ref (a (6 + 2 * x10))), (5, .ref (a (6 + 2 * x5))), (0, .ref (a 0)), (1, .int p0), (2, .int p1), (3, .int p2), (4, .int p3)]) hx hb dX5_isSolvable_166 hl (k := 0) rfl rfl (by decide) rfl (fun ls hl => ?_)
            refine lv_goto (tgt := 134) hx hb dX5_isSolvable_169 (by decide) ?_
            exact ih134 (y7_134 + 1) f92 _ _  (gap_step c78 hμ134) hR hB _ hl
      exact lp134 _ 0 f32 _ _  (Nat.lt_succ_self _) hR hB _ hl
    · replace hR := ifp c24 hR
      refine lv_aload_n hx hb dX5_isSolvable_61 rfl (lv_at hl 2 rfl) ?_
      refine gf hX hB cw0 rfl in5 4 (by decide) wm_1_141 rfl rfl dX5_isSolvable_62 ?_
      refine lv_aload hx hb dX5_isSolvable_65 (lv_at hl 1 rfl) ?_
      obtain ⟨r94, q96, f98, hd93⟩ := ex3 (D_X1_walk r q f x5)
      replace hR := bnd3_use hd93 hR
      refine call_V (n := 1) (As := [.ref (a (6 + 2 * x5))]) (rest := []) hX hB (k_X1_walk κ l a r q f x5 (lt15 hx5) r94 q96 f98 hd93) ⟨rfl, yk_X1_walk⟩ wm_2_72 wm_2_73 wm_2_74 wm_1_4 wm_2_75 ⟨Nat.le_of_ble_eq_true rfl, Nat.le_of_ble_eq_true rfl⟩ ⟨Nat.le_of_ble_eq_true rfl, Nat.le_of_ble_eq_true rfl⟩ cw3 rfl rfl rfl hl.1 rfl (Nat.le_of_ble_eq_true rfl) dX5_isSolvable_67 (fun o w' H locs hp hB => ?_)
      obtain ⟨rfl, ho95, hq97, rfl⟩ := hp
      refine W.eq (g2 := F0 m 70 ls []) rfl ?_
      refine lv_aload_n hx hb dX5_isSolvable_70 rfl (lv_at hl 2 rfl) ?_
      refine gf hX hB cw0 rfl in5 4 (by decide) wm_1_141 rfl rfl dX5_isSolvable_71 ?_
      refine gfN hX hB cw3 rfl in1 3 (by decide) wn_1_105 rfl rfl dX5_isSolvable_74 ?_
      have jn85 : ∀ (z0_85 : Int32) (H : Heap) (locs : List Loc), (z0_85 = 0 ∨ z0_85 = 1) → D_X5_isSolvable_j85 p2 x10 r94 q96 f98 z0_85 = (o_E, o_x, o_r, o_q, o_f) → Bd κ A s (cw κ a r94 q96 f98) H locs → ∀ ls : Array Slot, lv_has ls 8 [(6, .ref (a (6 + 2 * x10))), (5, .ref (a (6 + 2 * x5))), (0, .ref (a 0)), (1, .int p0), (2, .int p1), (3, .int p2), (4, .int p3)] → W p l e (Rm 7 193 5 30) s m args below meth c H locs 4 24 Q (F0 m 85 ls [.int z0_85]) := by
        intro z0_85 H locs hz0_85 hR hB ls hl
        replace hR := (D_X5_isSolvable_j85_s).symm.trans hR
        obtain ⟨E101, hd100⟩ := ex1 (D_X5_needState r94 q96 f98 z0_85)
        replace hR := bnd1_use hd100 hR
        refine CX_after2 hX hB (run_XS (n := 1) (As := [.int z0_85]) (rest := []) hX hB (k_X5_needState κ l hst a r94 q96 f98 z0_85 E101 hd100) yk_X5_needState wm_5_26 wm_5_27 wm_1_1 wm_5_28 ⟨Nat.le_of_ble_eq_true rfl, Nat.le_of_ble_eq_true rfl⟩ ⟨Nat.le_of_ble_eq_true rfl, Nat.le_of_ble_eq_true rfl⟩ rfl hl.1 rfl (Nat.le_of_ble_eq_true rfl) dX5_isSolvable_85) (fun E ce q9 w' H locs hp hB hce hcv hcl => ?_) (fun o w' H locs hp hB => ?_)
        · obtain ⟨he102, hE103, rfl⟩ := hp
          replace hR := ifn (ne_mt hE103 (by decide)) hR
          rw [← hQ]
          exact thrown_on hX hne hB hA3 hce hcv hcl (by obtain ⟨rfl, rfl, rfl, rfl, rfl⟩ := pr5 hR; exact ⟨he102, ((by decide : ∀ x ∈ (["java/lang/IllegalStateException"] : List String), x ∈ (["java/lang/IndexOutOfBoundsException", "java/lang/IllegalArgumentException", "java/lang/IllegalStateException"] : List String)) _ hE103), (fun h => ho95 ((fun h => h) h)), (hq97.trans rfl), rfl⟩) (Nat.le_of_ble_eq_true rfl) (Nat.le_of_ble_eq_true rfl)
        obtain ⟨he102, rfl, rfl⟩ := hp
        replace hR := ifp he102 hR
        refine W.eq (g2 := F0 m 88 ls []) rfl ?_
        refine lv_aload_n hx hb dX5_isSolvable_88 rfl (lv_at hl 2 rfl) ?_
        refine gf hX hB cw0 rfl in5 5 (by decide) wm_1_142 rfl rfl dX5_isSolvable_89 ?_
        refine lv_aload_n hx hb dX5_isSolvable_92 rfl (lv_at hl 2 rfl) ?_
        refine gf hX hB cw0 rfl in5 4 (by decide) wm_1_141 rfl rfl dX5_isSolvable_93 ?_
        refine lv_aload hx hb dX5_isSolvable_96 (lv_at hl 0 rfl) ?_
        refine lv_iload_n hx hb dX5_isSolvable_98 rfl (lv_at hl 5 rfl) ?_
        obtain ⟨x105, r106, q108, f110, hd104⟩ := ex4 (D_X2_divide r94 q96 f98 x10 p2)
        replace hR := bnd4_use hd104 hR
        refine call_V (n := 3) (As := [.ref (a 3), .ref (a (6 + 2 * x10)), .int p2]) (rest := []) hX hB (k_X2_divide κ l a r94 q96 f98 x10 p2 (lt15 hx10) x105 r106 q108 f110 hd104) ⟨rfl, yk_X2_divide⟩ wm_3_185 wm_3_186 wm_3_187 wm_1_5 wm_3_188 ⟨Nat.le_of_ble_eq_true rfl, Nat.le_of_ble_eq_true rfl⟩ ⟨Nat.le_of_ble_eq_true rfl, Nat.le_of_ble_eq_true rfl⟩ cw4 rfl rfl rfl hl.1 rfl (Nat.le_of_ble_eq_true rfl) dX5_isSolvable_99 (fun o w' H locs hp hB => ?_)
        obtain ⟨rfl, bx105, ho107, hq109, rfl⟩ := hp
        refine W.eq (g2 := F0 m 102 ls [.int x105]) rfl ?_
        rw [← hQ]
        exact vx_ret ( end_i hX hB hA3 rfl (nbz (by assumption)) (by obtain ⟨rfl, rfl, rfl, rfl, rfl⟩ := pr5 hR; exact ⟨rfl, rfl, (by assumption), (fun h => ho107 ((fun h => ho95 ((fun h => h) h)) h)), (hq109.trans (hq97.trans rfl)), rfl⟩) (Nat.le_of_ble_eq_true rfl) (Nat.le_of_ble_eq_true rfl) dX5_isSolvable_102)
      refine lv_if_ne (tgt := 84) hx hb dX5_isSolvable_77 (by decide) (fun c111 => ?_) (fun c111 => ?_)
      · replace hR := ifn c111 hR
        refine lv_iconst (v := 0) hx hb dX5_isSolvable_84 (by decide) ?_
        exact jn85 0 _ _ (Or.inl rfl) hR hB _ hl
      · replace hR := ifp c111 hR
        refine lv_iconst (v := 1) hx hb dX5_isSolvable_80 (by decide) ?_
        refine lv_goto (tgt := 85) hx hb dX5_isSolvable_81 (by decide) ?_
        exact jn85 1 _ _ (Or.inr rfl) hR hB _ hl
  refine lv_icmp_ne (tgt := 52) hx hb dX5_isSolvable_34 (by decide) (fun c112 => ?_) (fun c112 => ?_)
  · replace hR := ifn c112 hR
    refine lv_iconst (v := 0) hx hb dX5_isSolvable_52 (by decide) ?_
    exact jn53 0 _ _ (Or.inl rfl) hR hB _ hl
  · replace hR := ifp c112 hR
    refine lv_iload hx hb dX5_isSolvable_37 (lv_at hl 6 rfl) ?_
    refine lv_if_eq (tgt := 48) hx hb dX5_isSolvable_39 (by decide) (fun c113 => ?_) (fun c113 => ?_)
    · replace hR := ifp c113 hR
      refine lv_iconst (v := 1) hx hb dX5_isSolvable_48 (by decide) ?_
      refine lv_goto (tgt := 53) hx hb dX5_isSolvable_49 (by decide) ?_
      exact jn53 1 _ _ (Or.inr rfl) hR hB _ hl
    · replace hR := ifn c113 hR
      refine lv_iload hx hb dX5_isSolvable_42 (lv_at hl 6 rfl) ?_
      refine lv_iconst (v := 1) hx hb dX5_isSolvable_44 (by decide) ?_
      refine lv_icmp_ne (tgt := 52) hx hb dX5_isSolvable_45 (by decide) (fun c114 => ?_) (fun c114 => ?_)
      · replace hR := ifn c114 hR
        refine lv_iconst (v := 0) hx hb dX5_isSolvable_52 (by decide) ?_
        exact jn53 0 _ _ (Or.inl rfl) hR hB _ hl
      · replace hR := ifp c114 hR
        refine lv_iconst (v := 1) hx hb dX5_isSolvable_48 (by decide) ?_
        refine lv_goto (tgt := 53) hx hb dX5_isSolvable_49 (by decide) ?_
        exact jn53 1 _ _ (Or.inr rfl) hR hB _ hl
noncomputable def D_X5_restColumn_j77 (p1 : Int32) (p2 : Int32) (r7 : Nat → Int32) (q9 : Nat → Int32) (f11 : Nat → Nat → Int64) (x18 : Int32) (z0_77 : Int32) : String × Int32 × (Nat → Int32) × (Nat → Int32) × (Nat → Nat → Int64) := bnd1 (D_X5_needArgument r7 q9 f11 z0_77) (fun (E24 : String) => (if E24 = "" then bnd1 (D_X3_get r7 q9 f11 10 p2 (x18 + p1)) (fun (x28 : Int64) => ("", (x28).toInt32, r7, q9, f11)) else (E24, 0, r7, q9, f11)))
theorem D_X5_restColumn_j77_s {p1 : Int32} {p2 : Int32} {r7 : Nat → Int32} {q9 : Nat → Int32} {f11 : Nat → Nat → Int64} {x18 : Int32} {z0_77 : Int32} : D_X5_restColumn_j77 p1 p2 r7 q9 f11 x18 z0_77 = bnd1 (D_X5_needArgument r7 q9 f11 z0_77) (fun (E24 : String) => (if E24 = "" then bnd1 (D_X3_get r7 q9 f11 10 p2 (x18 + p1)) (fun (x28 : Int64) => ("", (x28).toInt32, r7, q9, f11)) else (E24, 0, r7, q9, f11))) := rfl
noncomputable def D_X5_restColumn_j31 (p1 : Int32) (p2 : Int32) (x5 : Nat) (r7 : Nat → Int32) (q9 : Nat → Int32) (f11 : Nat → Nat → Int64) (z0_31 : Int32) : String × Int32 × (Nat → Int32) × (Nat → Int32) × (Nat → Nat → Int64) := bnd1 (D_X5_needState r7 q9 f11 z0_31) (fun (E14 : String) => (if E14 = "" then bnd1 (D_X1_countRank r7 q9 f11) (fun (x18 : Int32) => (if p1 < 0 then (D_X5_restColumn_j77 p1 p2 r7 q9 f11 x18 0) else (if ((r7 (2 * x5 + 1)) - x18) ≤ p1 then (D_X5_restColumn_j77 p1 p2 r7 q9 f11 x18 0) else (if p2 < 0 then (D_X5_restColumn_j77 p1 p2 r7 q9 f11 x18 0) else (if (r7 (2 * x5 + 1)) ≤ p2 then (D_X5_restColumn_j77 p1 p2 r7 q9 f11 x18 0) else (D_X5_restColumn_j77 p1 p2 r7 q9 f11 x18 1)))))) else (E14, 0, r7, q9, f11)))
theorem D_X5_restColumn_j31_s {p1 : Int32} {p2 : Int32} {x5 : Nat} {r7 : Nat → Int32} {q9 : Nat → Int32} {f11 : Nat → Nat → Int64} {z0_31 : Int32} : D_X5_restColumn_j31 p1 p2 x5 r7 q9 f11 z0_31 = bnd1 (D_X5_needState r7 q9 f11 z0_31) (fun (E14 : String) => (if E14 = "" then bnd1 (D_X1_countRank r7 q9 f11) (fun (x18 : Int32) => (if p1 < 0 then (D_X5_restColumn_j77 p1 p2 r7 q9 f11 x18 0) else (if ((r7 (2 * x5 + 1)) - x18) ≤ p1 then (D_X5_restColumn_j77 p1 p2 r7 q9 f11 x18 0) else (if p2 < 0 then (D_X5_restColumn_j77 p1 p2 r7 q9 f11 x18 0) else (if (r7 (2 * x5 + 1)) ≤ p2 then (D_X5_restColumn_j77 p1 p2 r7 q9 f11 x18 0) else (D_X5_restColumn_j77 p1 p2 r7 q9 f11 x18 1)))))) else (E14, 0, r7, q9, f11))) := rfl
noncomputable def D_X5_restColumn (r : Nat → Int32) (q : Nat → Int32) (f : Nat → Nat → Int64) (p0 : Int32) (p1 : Int32) (p2 : Int32) : String × Int32 × (Nat → Int32) × (Nat → Int32) × (Nat → Nat → Int64) := bnd2 (D_X5_needTable r q f p0) (fun (E2 : String) (x5 : Nat) => (if E2 = "" then bnd3 (D_X1_walk r q f x5) (fun (r7 : Nat → Int32) (q9 : Nat → Int32) (f11 : Nat → Nat → Int64) => (if (q9 1) = 0 then (D_X5_restColumn_j31 p1 p2 x5 r7 q9 f11 1) else (D_X5_restColumn_j31 p1 p2 x5 r7 q9 f11 0))) else (E2, 0, r, q, f)))
theorem D_X5_restColumn_s {r : Nat → Int32} {q : Nat → Int32} {f : Nat → Nat → Int64} {p0 : Int32} {p1 : Int32} {p2 : Int32} : D_X5_restColumn r q f p0 p1 p2 = bnd2 (D_X5_needTable r q f p0) (fun (E2 : String) (x5 : Nat) => (if E2 = "" then bnd3 (D_X1_walk r q f x5) (fun (r7 : Nat → Int32) (q9 : Nat → Int32) (f11 : Nat → Nat → Int64) => (if (q9 1) = 0 then (D_X5_restColumn_j31 p1 p2 x5 r7 q9 f11 1) else (D_X5_restColumn_j31 p1 p2 x5 r7 q9 f11 0))) else (E2, 0, r, q, f))) := rfl
set_option maxHeartbeats 4000000 in
set_option maxRecDepth 100000 in
theorem k_X5_restColumn (κ : Kt) (l : Launch) (hst : l.stackTraces = false) (a : Nat → Nat) (r q : Nat → Int32) (f : Nat → Nat → Int64) (p0 : Int32) (p1 : Int32) (p2 : Int32)  (o_E : String) (o_x : Int32) (o_r : Nat → Int32) (o_q : Nat → Int32) (o_f : Nat → Nat → Int64) (hR : D_X5_restColumn r q f p0 p1 p2 = (o_E, o_x, o_r, o_q, o_f)) : CX κ l yX5_restColumn cX5_restColumn 6 (some .int) 7 122 3 18 [.ref (a 0), .int p0, .int p1, .int p2] (cw κ a r q f) (fun o w' => o_E = "" ∧ o = some (.int o_x) ∧ (okr r → okr o_r) ∧ o_q 4 = q 4 ∧ w' = cw κ a o_r o_q o_f) (fun E w' => o_E = E ∧ o_E ∈ (["java/lang/IndexOutOfBoundsException", "java/lang/IllegalArgumentException", "java/lang/IllegalStateException"] : List String) ∧ (okr r → okr o_r) ∧ o_q 4 = q 4 ∧ w' = cw κ a o_r o_q o_f) := by
  refine CX_begin (by decide) (Nat.le_of_ble_eq_true rfl) ?_
  intro p e s m args below meth c A Q hX hne hA3 hQ hB ls hl
  have hx := hX.1.1
  have hb := hX.1.2.1
  have hl : lv_has ls 6 [(0, .ref (a 0)), (1, .int p0), (2, .int p1), (3, .int p2)] := hl
  replace hR := (D_X5_restColumn_s).symm.trans hR
  refine lv_aload_n hx hb dX5_restColumn_0 rfl (lv_at hl 0 rfl) ?_
  refine lv_iload_n hx hb dX5_restColumn_1 rfl (lv_at hl 1 rfl) ?_
  obtain ⟨E2, x5, hd1⟩ := ex2 (D_X5_needTable r q f p0)
  replace hR := bnd2_use hd1 hR
  refine CX_after2 hX hB (run_XV (n := 1) (As := [.int p0]) (rest := []) hX hB (k_X5_needTable κ l hst a r q f p0 E2 x5 hd1) ⟨rfl, yk_X5_needTable⟩ wm_2_165 wm_2_167 wp_17 wm_1_1 wm_2_168 ⟨Nat.le_of_ble_eq_true rfl, Nat.le_of_ble_eq_true rfl⟩ ⟨Nat.le_of_ble_eq_true rfl, Nat.le_of_ble_eq_true rfl⟩ cw0 rfl rfl rfl hl.1 rfl (Nat.le_of_ble_eq_true rfl) dX5_restColumn_2) (fun E ce q9 w' H locs hp hB hce hcv hcl => ?_) (fun o w' H locs hp hB => ?_)
  · obtain ⟨he3, hE4, rfl⟩ := hp
    replace hR := ifn (ne_mt hE4 (by decide)) hR
    rw [← hQ]
    exact thrown_on hX hne hB hA3 hce hcv hcl (by obtain ⟨rfl, rfl, rfl, rfl, rfl⟩ := pr5 hR; exact ⟨he3, ((by decide : ∀ x ∈ (["java/lang/IndexOutOfBoundsException"] : List String), x ∈ (["java/lang/IndexOutOfBoundsException", "java/lang/IllegalArgumentException", "java/lang/IllegalStateException"] : List String)) _ hE4), (fun h => h), rfl, rfl⟩) (Nat.le_of_ble_eq_true rfl) (Nat.le_of_ble_eq_true rfl)
  obtain ⟨he3, hx5, rfl, rfl⟩ := hp
  replace hR := ifp he3 hR
  refine W.eq (g2 := F0 m 5 ls [.ref (a (6 + 2 * x5))]) rfl ?_
  refine lv_astore (lv' := [(4, .ref (a (6 + 2 * x5))), (0, .ref (a 0)), (1, .int p0), (2, .int p1), (3, .int p2)]) hx hb dX5_restColumn_5 hl (by decide) rfl (fun ls hl => ?_)
  refine lv_aload_n hx hb dX5_restColumn_7 rfl (lv_at hl 1 rfl) ?_
  refine gf hX hB cw0 rfl in5 4 (by decide) wm_1_141 rfl rfl dX5_restColumn_8 ?_
  refine lv_aload hx hb dX5_restColumn_11 (lv_at hl 0 rfl) ?_
  obtain ⟨r7, q9, f11, hd6⟩ := ex3 (D_X1_walk r q f x5)
  replace hR := bnd3_use hd6 hR
  refine call_V (n := 1) (As := [.ref (a (6 + 2 * x5))]) (rest := []) hX hB (k_X1_walk κ l a r q f x5 (lt15 hx5) r7 q9 f11 hd6) ⟨rfl, yk_X1_walk⟩ wm_2_72 wm_2_73 wm_2_74 wm_1_4 wm_2_75 ⟨Nat.le_of_ble_eq_true rfl, Nat.le_of_ble_eq_true rfl⟩ ⟨Nat.le_of_ble_eq_true rfl, Nat.le_of_ble_eq_true rfl⟩ cw3 rfl rfl rfl hl.1 rfl (Nat.le_of_ble_eq_true rfl) dX5_restColumn_13 (fun o w' H locs hp hB => ?_)
  obtain ⟨rfl, ho8, hq10, rfl⟩ := hp
  refine W.eq (g2 := F0 m 16 ls []) rfl ?_
  refine lv_aload_n hx hb dX5_restColumn_16 rfl (lv_at hl 1 rfl) ?_
  refine gf hX hB cw0 rfl in5 4 (by decide) wm_1_141 rfl rfl dX5_restColumn_17 ?_
  refine gfN hX hB cw3 rfl in1 3 (by decide) wn_1_105 rfl rfl dX5_restColumn_20 ?_
  have jn31 : ∀ (z0_31 : Int32) (H : Heap) (locs : List Loc), (z0_31 = 0 ∨ z0_31 = 1) → D_X5_restColumn_j31 p1 p2 x5 r7 q9 f11 z0_31 = (o_E, o_x, o_r, o_q, o_f) → Bd κ A s (cw κ a r7 q9 f11) H locs → ∀ ls : Array Slot, lv_has ls 6 [(4, .ref (a (6 + 2 * x5))), (0, .ref (a 0)), (1, .int p0), (2, .int p1), (3, .int p2)] → W p l e (Rm 7 122 3 18) s m args below meth c H locs 1 6 Q (F0 m 31 ls [.int z0_31]) := by
    intro z0_31 H locs hz0_31 hR hB ls hl
    replace hR := (D_X5_restColumn_j31_s).symm.trans hR
    obtain ⟨E14, hd13⟩ := ex1 (D_X5_needState r7 q9 f11 z0_31)
    replace hR := bnd1_use hd13 hR
    refine CX_after2 hX hB (run_XS (n := 1) (As := [.int z0_31]) (rest := []) hX hB (k_X5_needState κ l hst a r7 q9 f11 z0_31 E14 hd13) yk_X5_needState wm_5_26 wm_5_27 wm_1_1 wm_5_28 ⟨Nat.le_of_ble_eq_true rfl, Nat.le_of_ble_eq_true rfl⟩ ⟨Nat.le_of_ble_eq_true rfl, Nat.le_of_ble_eq_true rfl⟩ rfl hl.1 rfl (Nat.le_of_ble_eq_true rfl) dX5_restColumn_31) (fun E ce q9 w' H locs hp hB hce hcv hcl => ?_) (fun o w' H locs hp hB => ?_)
    · obtain ⟨he15, hE16, rfl⟩ := hp
      replace hR := ifn (ne_mt hE16 (by decide)) hR
      rw [← hQ]
      exact thrown_on hX hne hB hA3 hce hcv hcl (by obtain ⟨rfl, rfl, rfl, rfl, rfl⟩ := pr5 hR; exact ⟨he15, ((by decide : ∀ x ∈ (["java/lang/IllegalStateException"] : List String), x ∈ (["java/lang/IndexOutOfBoundsException", "java/lang/IllegalArgumentException", "java/lang/IllegalStateException"] : List String)) _ hE16), (fun h => ho8 ((fun h => h) h)), (hq10.trans rfl), rfl⟩) (Nat.le_of_ble_eq_true rfl) (Nat.le_of_ble_eq_true rfl)
    obtain ⟨he15, rfl, rfl⟩ := hp
    replace hR := ifp he15 hR
    refine W.eq (g2 := F0 m 34 ls []) rfl ?_
    refine lv_aload_n hx hb dX5_restColumn_34 rfl (lv_at hl 1 rfl) ?_
    refine gf hX hB cw0 rfl in5 4 (by decide) wm_1_141 rfl rfl dX5_restColumn_35 ?_
    obtain ⟨x18, hd17⟩ := ex1 (D_X1_countRank r7 q9 f11)
    replace hR := bnd1_use hd17 hR
    refine call_V (n := 0) (As := []) (rest := []) hX hB (k_X1_countRank κ l a r7 q9 f11 x18 hd17) ⟨rfl, yk_X1_countRank⟩ wm_5_97 wm_3_196 wm_3_197 wm_1_4 wm_3_198 ⟨Nat.le_of_ble_eq_true rfl, Nat.le_of_ble_eq_true rfl⟩ ⟨Nat.le_of_ble_eq_true rfl, Nat.le_of_ble_eq_true rfl⟩ cw3 rfl rfl rfl hl.1 rfl (Nat.le_of_ble_eq_true rfl) dX5_restColumn_38 (fun o w' H locs hp hB => ?_)
    obtain ⟨rfl, rfl⟩ := hp
    refine W.eq (g2 := F0 m 41 ls [.int x18]) rfl ?_
    refine lv_istore (lv' := [(5, .int x18), (4, .ref (a (6 + 2 * x5))), (0, .ref (a 0)), (1, .int p0), (2, .int p1), (3, .int p2)]) hx hb dX5_restColumn_41 hl (by decide) rfl (fun ls hl => ?_)
    refine lv_iload_n hx hb dX5_restColumn_43 rfl (lv_at hl 4 rfl) ?_
    have jn77 : ∀ (z0_77 : Int32) (H : Heap) (locs : List Loc), (z0_77 = 0 ∨ z0_77 = 1) → D_X5_restColumn_j77 p1 p2 r7 q9 f11 x18 z0_77 = (o_E, o_x, o_r, o_q, o_f) → Bd κ A s (cw κ a r7 q9 f11) H locs → ∀ ls : Array Slot, lv_has ls 6 [(5, .int x18), (4, .ref (a (6 + 2 * x5))), (0, .ref (a 0)), (1, .int p0), (2, .int p1), (3, .int p2)] → W p l e (Rm 7 122 3 18) s m args below meth c H locs 2 12 Q (F0 m 77 ls [.int z0_77]) := by
      intro z0_77 H locs hz0_77 hR hB ls hl
      replace hR := (D_X5_restColumn_j77_s).symm.trans hR
      obtain ⟨E24, hd23⟩ := ex1 (D_X5_needArgument r7 q9 f11 z0_77)
      replace hR := bnd1_use hd23 hR
      refine CX_after2 hX hB (run_XS (n := 1) (As := [.int z0_77]) (rest := []) hX hB (k_X5_needArgument κ l hst a r7 q9 f11 z0_77 E24 hd23) yk_X5_needArgument wm_3_0 wm_3_1 wm_1_1 wm_3_2 ⟨Nat.le_of_ble_eq_true rfl, Nat.le_of_ble_eq_true rfl⟩ ⟨Nat.le_of_ble_eq_true rfl, Nat.le_of_ble_eq_true rfl⟩ rfl hl.1 rfl (Nat.le_of_ble_eq_true rfl) dX5_restColumn_77) (fun E ce q9 w' H locs hp hB hce hcv hcl => ?_) (fun o w' H locs hp hB => ?_)
      · obtain ⟨he25, hE26, rfl⟩ := hp
        replace hR := ifn (ne_mt hE26 (by decide)) hR
        rw [← hQ]
        exact thrown_on hX hne hB hA3 hce hcv hcl (by obtain ⟨rfl, rfl, rfl, rfl, rfl⟩ := pr5 hR; exact ⟨he25, ((by decide : ∀ x ∈ (["java/lang/IllegalArgumentException"] : List String), x ∈ (["java/lang/IndexOutOfBoundsException", "java/lang/IllegalArgumentException", "java/lang/IllegalStateException"] : List String)) _ hE26), (fun h => ho8 ((fun h => h) h)), (hq10.trans rfl), rfl⟩) (Nat.le_of_ble_eq_true rfl) (Nat.le_of_ble_eq_true rfl)
      obtain ⟨he25, rfl, rfl⟩ := hp
      replace hR := ifp he25 hR
      refine W.eq (g2 := F0 m 80 ls []) rfl ?_
      refine lv_aload_n hx hb dX5_restColumn_80 rfl (lv_at hl 2 rfl) ?_
      refine gf hX hB cw0 rfl in5 4 (by decide) wm_1_141 rfl rfl dX5_restColumn_81 ?_
      refine gfN hX hB cw3 rfl in1 2 (by decide) wn_1_103 rfl rfl dX5_restColumn_84 ?_
      refine lv_iload_n hx hb dX5_restColumn_87 rfl (lv_at hl 5 rfl) ?_
      refine lv_iload hx hb dX5_restColumn_88 (lv_at hl 0 rfl) ?_
      refine lv_iload_n hx hb dX5_restColumn_90 rfl (lv_at hl 4 rfl) ?_
      refine lv_iadd hx hb dX5_restColumn_91 ?_
      obtain ⟨x28, hd27⟩ := ex1 (D_X3_get r7 q9 f11 10 p2 (x18 + p1))
      replace hR := bnd1_use hd27 hR
      refine call_V (n := 2) (As := [.int p2, .int (x18 + p1)]) (rest := []) hX hB (k_X3_get κ l a r7 q9 f11 10 p2 (x18 + p1) (by decide) x28 hd27) ⟨rfl, yk_X3_get⟩ wm_2_123 wm_1_187 wm_1_188 wm_1_2 wm_1_189 ⟨Nat.le_of_ble_eq_true rfl, Nat.le_of_ble_eq_true rfl⟩ ⟨Nat.le_of_ble_eq_true rfl, Nat.le_of_ble_eq_true rfl⟩ (cwG (i := 10) (by decide)) rfl rfl rfl hl.1 rfl (Nat.le_of_ble_eq_true rfl) dX5_restColumn_92 (fun o w' H locs hp hB => ?_)
      obtain ⟨rfl, rfl⟩ := hp
      refine W.eq (g2 := F0 m 95 ls [.long x28]) rfl ?_
      refine lv_l2i hx hb dX5_restColumn_95 rfl ?_
      rw [← hQ]
      exact vx_ret ( end_i hX hB hA3 rfl rfl (by obtain ⟨rfl, rfl, rfl, rfl, rfl⟩ := pr5 hR; exact ⟨rfl, rfl, (fun h => ho8 ((fun h => h) h)), (hq10.trans rfl), rfl⟩) (Nat.le_of_ble_eq_true rfl) (Nat.le_of_ble_eq_true rfl) dX5_restColumn_96)
    refine lv_if_lt (tgt := 76) hx hb dX5_restColumn_44 (by decide) (fun c29 => ?_) (fun c29 => ?_)
    · replace hR := ifp c29 hR
      refine lv_iconst (v := 0) hx hb dX5_restColumn_76 (by decide) ?_
      exact jn77 0 _ _ (Or.inl rfl) hR hB _ hl
    · replace hR := ifn c29 hR
      refine lv_iload_n hx hb dX5_restColumn_47 rfl (lv_at hl 4 rfl) ?_
      refine lv_aload hx hb dX5_restColumn_48 (lv_at hl 1 rfl) ?_
      refine gfN hX hB (cwG (i := x5) (lt15 hx5)) rfl in3 2 (by decide) wn_1_57 rfl rfl dX5_restColumn_50 ?_
      refine lv_iload hx hb dX5_restColumn_53 (lv_at hl 0 rfl) ?_
      refine lv_isub hx hb dX5_restColumn_55 ?_
      refine lv_icmp_ge (tgt := 76) hx hb dX5_restColumn_56 (by decide) (fun c30 => ?_) (fun c30 => ?_)
      · replace hR := ifp c30 hR
        refine lv_iconst (v := 0) hx hb dX5_restColumn_76 (by decide) ?_
        exact jn77 0 _ _ (Or.inl rfl) hR hB _ hl
      · replace hR := ifn c30 hR
        refine lv_iload_n hx hb dX5_restColumn_59 rfl (lv_at hl 5 rfl) ?_
        refine lv_if_lt (tgt := 76) hx hb dX5_restColumn_60 (by decide) (fun c31 => ?_) (fun c31 => ?_)
        · replace hR := ifp c31 hR
          refine lv_iconst (v := 0) hx hb dX5_restColumn_76 (by decide) ?_
          exact jn77 0 _ _ (Or.inl rfl) hR hB _ hl
        · replace hR := ifn c31 hR
          refine lv_iload_n hx hb dX5_restColumn_63 rfl (lv_at hl 5 rfl) ?_
          refine lv_aload hx hb dX5_restColumn_64 (lv_at hl 1 rfl) ?_
          refine gfN hX hB (cwG (i := x5) (lt15 hx5)) rfl in3 2 (by decide) wn_1_57 rfl rfl dX5_restColumn_66 ?_
          refine lv_icmp_ge (tgt := 76) hx hb dX5_restColumn_69 (by decide) (fun c32 => ?_) (fun c32 => ?_)
          · replace hR := ifp c32 hR
            refine lv_iconst (v := 0) hx hb dX5_restColumn_76 (by decide) ?_
            exact jn77 0 _ _ (Or.inl rfl) hR hB _ hl
          · replace hR := ifn c32 hR
            refine lv_iconst (v := 1) hx hb dX5_restColumn_72 (by decide) ?_
            refine lv_goto (tgt := 77) hx hb dX5_restColumn_73 (by decide) ?_
            exact jn77 1 _ _ (Or.inr rfl) hR hB _ hl
  refine lv_if_ne (tgt := 30) hx hb dX5_restColumn_23 (by decide) (fun c33 => ?_) (fun c33 => ?_)
  · replace hR := ifn c33 hR
    refine lv_iconst (v := 0) hx hb dX5_restColumn_30 (by decide) ?_
    exact jn31 0 _ _ (Or.inl rfl) hR hB _ hl
  · replace hR := ifp c33 hR
    refine lv_iconst (v := 1) hx hb dX5_restColumn_26 (by decide) ?_
    refine lv_goto (tgt := 31) hx hb dX5_restColumn_27 (by decide) ?_
    exact jn31 1 _ _ (Or.inr rfl) hR hB _ hl
noncomputable def D_X5_restOf_136 (x5 : Nat) (r19 : Nat → Int32) (q21 : Nat → Int32) (lb93 : Int32 → Int64 → (Nat → Nat → Int64) → String × Int32 × (Nat → Int32) × (Nat → Int32) × (Nat → Nat → Int64)) (y8_93 : Int32) (y6_93 : Int64) (x486 : Int64) (x489 : Int64) (nn : Nat) : Int32 → (Nat → Nat → Int64) → String × Int32 × (Nat → Int32) × (Nat → Int32) × (Nat → Nat → Int64) := @Nat.rec (fun _ => Int32 → (Nat → Nat → Int64) → String × Int32 × (Nat → Int32) × (Nat → Int32) × (Nat → Nat → Int64)) (fun _ _ => default) (fun _ lb136 (y13_136 : Int32) (f_136 : Nat → Nat → Int64) => (if (r19 (2 * x5 + 1)) ≤ y13_136 then bnd1 (D_X5_rowNumber r19 q21 f_136 y8_93) (fun (x532 : Int64) => (lb93 (y8_93 + 1) ((y6_93 * x486) + x532) f_136)) else bnd1 (D_X5_rowNumber r19 q21 f_136 y13_136) (fun (x534 : Int64) => bnd1 (D_X3_get r19 q21 f_136 6 y8_93 y13_136) (fun (x536 : Int64) => bnd1 (D_X5_setRowNumber r19 q21 f_136 y13_136 (x534 - (x489 * x536))) (fun (f538 : Nat → Nat → Int64) => (lb136 (y13_136 + 1) f538)))))) nn
theorem D_X5_restOf_136_s {x5 : Nat} {r19 : Nat → Int32} {q21 : Nat → Int32} {lb93 : Int32 → Int64 → (Nat → Nat → Int64) → String × Int32 × (Nat → Int32) × (Nat → Int32) × (Nat → Nat → Int64)} {y8_93 : Int32} {y6_93 : Int64} {x486 : Int64} {x489 : Int64} {nn : Nat} {y13_136 : Int32} {f_136 : Nat → Nat → Int64} : D_X5_restOf_136 x5 r19 q21 lb93 y8_93 y6_93 x486 x489 (nn + 1) y13_136 f_136 = (if (r19 (2 * x5 + 1)) ≤ y13_136 then bnd1 (D_X5_rowNumber r19 q21 f_136 y8_93) (fun (x532 : Int64) => (lb93 (y8_93 + 1) ((y6_93 * x486) + x532) f_136)) else bnd1 (D_X5_rowNumber r19 q21 f_136 y13_136) (fun (x534 : Int64) => bnd1 (D_X3_get r19 q21 f_136 6 y8_93 y13_136) (fun (x536 : Int64) => bnd1 (D_X5_setRowNumber r19 q21 f_136 y13_136 (x534 - (x489 * x536))) (fun (f538 : Nat → Nat → Int64) => ((D_X5_restOf_136 x5 r19 q21 lb93 y8_93 y6_93 x486 x489 nn) (y13_136 + 1) f538))))) := rfl
noncomputable def D_X5_restOf_93 (x5 : Nat) (r19 : Nat → Int32) (q21 : Nat → Int32) (nn : Nat) : Int32 → Int64 → (Nat → Nat → Int64) → String × Int32 × (Nat → Int32) × (Nat → Int32) × (Nat → Nat → Int64) := @Nat.rec (fun _ => Int32 → Int64 → (Nat → Nat → Int64) → String × Int32 × (Nat → Int32) × (Nat → Int32) × (Nat → Nat → Int64)) (fun _ _ _ => default) (fun _ lb93 (y8_93 : Int32) (y6_93 : Int64) (f_93 : Nat → Nat → Int64) => (if (r19 (2 * x5 + 1)) ≤ y8_93 then ("", (y6_93).toInt32, r19, q21, f_93) else bnd1 (D_X3_get r19 q21 f_93 6 y8_93 y8_93) (fun (x486 : Int64) => bnd1 (D_X5_rowNumber r19 q21 f_93 y8_93) (fun (x488 : Int64) => bnd1 (D_X5_divideDown x488 x486) (fun (x489 : Int64) => (D_X5_restOf_136 x5 r19 q21 lb93 y8_93 y6_93 x486 x489 (gap (r19 (2 * x5 + 1)) y8_93 + 1) y8_93 f_93)))))) nn
theorem D_X5_restOf_93_s {x5 : Nat} {r19 : Nat → Int32} {q21 : Nat → Int32} {nn : Nat} {y8_93 : Int32} {y6_93 : Int64} {f_93 : Nat → Nat → Int64} : D_X5_restOf_93 x5 r19 q21 (nn + 1) y8_93 y6_93 f_93 = (if (r19 (2 * x5 + 1)) ≤ y8_93 then ("", (y6_93).toInt32, r19, q21, f_93) else bnd1 (D_X3_get r19 q21 f_93 6 y8_93 y8_93) (fun (x486 : Int64) => bnd1 (D_X5_rowNumber r19 q21 f_93 y8_93) (fun (x488 : Int64) => bnd1 (D_X5_divideDown x488 x486) (fun (x489 : Int64) => (D_X5_restOf_136 x5 r19 q21 (D_X5_restOf_93 x5 r19 q21 nn) y8_93 y6_93 x486 x489 (gap (r19 (2 * x5 + 1)) y8_93 + 1) y8_93 f_93))))) := rfl
noncomputable def D_X5_restOf_57 (p2 : Int32) (x5 : Nat) (x10 : Nat) (r19 : Nat → Int32) (q21 : Nat → Int32) (nn : Nat) : Int32 → (Nat → Nat → Int64) → String × Int32 × (Nat → Int32) × (Nat → Int32) × (Nat → Nat → Int64) := @Nat.rec (fun _ => Int32 → (Nat → Nat → Int64) → String × Int32 × (Nat → Int32) × (Nat → Int32) × (Nat → Nat → Int64)) (fun _ _ => default) (fun _ lb57 (y6_57 : Int32) (f_57 : Nat → Nat → Int64) => (if (r19 (2 * x5 + 1)) ≤ y6_57 then (D_X5_restOf_93 x5 r19 q21 (gap (r19 (2 * x5 + 1)) 0 + 1) 0 0 f_57) else bnd1 (D_X3_get r19 q21 f_57 x10 p2 y6_57) (fun (x540 : Int64) => bnd1 (D_X5_setRowNumber r19 q21 f_57 y6_57 x540) (fun (f542 : Nat → Nat → Int64) => (lb57 (y6_57 + 1) f542))))) nn
theorem D_X5_restOf_57_s {p2 : Int32} {x5 : Nat} {x10 : Nat} {r19 : Nat → Int32} {q21 : Nat → Int32} {nn : Nat} {y6_57 : Int32} {f_57 : Nat → Nat → Int64} : D_X5_restOf_57 p2 x5 x10 r19 q21 (nn + 1) y6_57 f_57 = (if (r19 (2 * x5 + 1)) ≤ y6_57 then (D_X5_restOf_93 x5 r19 q21 (gap (r19 (2 * x5 + 1)) 0 + 1) 0 0 f_57) else bnd1 (D_X3_get r19 q21 f_57 x10 p2 y6_57) (fun (x540 : Int64) => bnd1 (D_X5_setRowNumber r19 q21 f_57 y6_57 x540) (fun (f542 : Nat → Nat → Int64) => ((D_X5_restOf_57 p2 x5 x10 r19 q21 nn) (y6_57 + 1) f542)))) := rfl
noncomputable def D_X5_restOf_j51 (p2 : Int32) (x5 : Nat) (x10 : Nat) (r19 : Nat → Int32) (q21 : Nat → Int32) (f23 : Nat → Nat → Int64) (z0_51 : Int32) : String × Int32 × (Nat → Int32) × (Nat → Int32) × (Nat → Nat → Int64) := bnd1 (D_X5_needArgument r19 q21 f23 z0_51) (fun (E30 : String) => (if E30 = "" then (D_X5_restOf_57 p2 x5 x10 r19 q21 (gap (r19 (2 * x5 + 1)) 0 + 1) 0 f23) else (E30, 0, r19, q21, f23)))
theorem D_X5_restOf_j51_s {p2 : Int32} {x5 : Nat} {x10 : Nat} {r19 : Nat → Int32} {q21 : Nat → Int32} {f23 : Nat → Nat → Int64} {z0_51 : Int32} : D_X5_restOf_j51 p2 x5 x10 r19 q21 f23 z0_51 = bnd1 (D_X5_needArgument r19 q21 f23 z0_51) (fun (E30 : String) => (if E30 = "" then (D_X5_restOf_57 p2 x5 x10 r19 q21 (gap (r19 (2 * x5 + 1)) 0 + 1) 0 f23) else (E30, 0, r19, q21, f23))) := rfl
noncomputable def D_X5_restOf (r : Nat → Int32) (q : Nat → Int32) (f : Nat → Nat → Int64) (p0 : Int32) (p1 : Int32) (p2 : Int32) : String × Int32 × (Nat → Int32) × (Nat → Int32) × (Nat → Nat → Int64) := bnd2 (D_X5_needTable r q f p0) (fun (E2 : String) (x5 : Nat) => (if E2 = "" then bnd2 (D_X5_needTable r q f p1) (fun (E7 : String) (x10 : Nat) => (if E7 = "" then bnd1 (D_X3_hasLine r q f x10 0 p2) (fun (x12 : Int32) => bnd1 (D_X5_needIndex r q f x12) (fun (E14 : String) => (if E14 = "" then bnd4 (D_X5_leavesRests r q f x5) (fun (x18 : Int32) (r19 : Nat → Int32) (q21 : Nat → Int32) (f23 : Nat → Nat → Int64) => bnd1 (D_X5_needState r19 q21 f23 x18) (fun (E25 : String) => (if E25 = "" then (if (r19 (2 * x5 + 1)) = (r19 (2 * x10 + 1)) then (D_X5_restOf_j51 p2 x5 x10 r19 q21 f23 1) else (D_X5_restOf_j51 p2 x5 x10 r19 q21 f23 0)) else (E25, 0, r19, q21, f23)))) else (E14, 0, r, q, f)))) else (E7, 0, r, q, f))) else (E2, 0, r, q, f)))
theorem D_X5_restOf_s {r : Nat → Int32} {q : Nat → Int32} {f : Nat → Nat → Int64} {p0 : Int32} {p1 : Int32} {p2 : Int32} : D_X5_restOf r q f p0 p1 p2 = bnd2 (D_X5_needTable r q f p0) (fun (E2 : String) (x5 : Nat) => (if E2 = "" then bnd2 (D_X5_needTable r q f p1) (fun (E7 : String) (x10 : Nat) => (if E7 = "" then bnd1 (D_X3_hasLine r q f x10 0 p2) (fun (x12 : Int32) => bnd1 (D_X5_needIndex r q f x12) (fun (E14 : String) => (if E14 = "" then bnd4 (D_X5_leavesRests r q f x5) (fun (x18 : Int32) (r19 : Nat → Int32) (q21 : Nat → Int32) (f23 : Nat → Nat → Int64) => bnd1 (D_X5_needState r19 q21 f23 x18) (fun (E25 : String) => (if E25 = "" then (if (r19 (2 * x5 + 1)) = (r19 (2 * x10 + 1)) then (D_X5_restOf_j51 p2 x5 x10 r19 q21 f23 1) else (D_X5_restOf_j51 p2 x5 x10 r19 q21 f23 0)) else (E25, 0, r19, q21, f23)))) else (E14, 0, r, q, f)))) else (E7, 0, r, q, f))) else (E2, 0, r, q, f))) := rfl
set_option maxHeartbeats 4000000 in
set_option maxRecDepth 100000 in
theorem k_X5_restOf (κ : Kt) (l : Launch) (hst : l.stackTraces = false) (a : Nat → Nat) (r q : Nat → Int32) (f : Nat → Nat → Int64) (p0 : Int32) (p1 : Int32) (p2 : Int32)  (o_E : String) (o_x : Int32) (o_r : Nat → Int32) (o_q : Nat → Int32) (o_f : Nat → Nat → Int64) (hR : D_X5_restOf r q f p0 p1 p2 = (o_E, o_x, o_r, o_q, o_f)) : CX κ l yX5_restOf cX5_restOf 14 (some .int) 7 186 5 30 [.ref (a 0), .int p0, .int p1, .int p2] (cw κ a r q f) (fun o w' => o_E = "" ∧ o = some (.int o_x) ∧ (okr r → okr o_r) ∧ o_q 4 = q 4 ∧ w' = cw κ a o_r o_q o_f) (fun E w' => o_E = E ∧ o_E ∈ (["java/lang/IndexOutOfBoundsException", "java/lang/IllegalArgumentException", "java/lang/IllegalStateException"] : List String) ∧ (okr r → okr o_r) ∧ o_q 4 = q 4 ∧ w' = cw κ a o_r o_q o_f) := by
  refine CX_begin (by decide) (Nat.le_of_ble_eq_true rfl) ?_
  intro p e s m args below meth c A Q hX hne hA3 hQ hB ls hl
  have hx := hX.1.1
  have hb := hX.1.2.1
  have hl : lv_has ls 14 [(0, .ref (a 0)), (1, .int p0), (2, .int p1), (3, .int p2)] := hl
  replace hR := (D_X5_restOf_s).symm.trans hR
  refine lv_aload_n hx hb dX5_restOf_0 rfl (lv_at hl 0 rfl) ?_
  refine lv_iload_n hx hb dX5_restOf_1 rfl (lv_at hl 1 rfl) ?_
  obtain ⟨E2, x5, hd1⟩ := ex2 (D_X5_needTable r q f p0)
  replace hR := bnd2_use hd1 hR
  refine CX_after2 hX hB (run_XV (n := 1) (As := [.int p0]) (rest := []) hX hB (k_X5_needTable κ l hst a r q f p0 E2 x5 hd1) ⟨rfl, yk_X5_needTable⟩ wm_2_165 wm_2_167 wp_17 wm_1_1 wm_2_168 ⟨Nat.le_of_ble_eq_true rfl, Nat.le_of_ble_eq_true rfl⟩ ⟨Nat.le_of_ble_eq_true rfl, Nat.le_of_ble_eq_true rfl⟩ cw0 rfl rfl rfl hl.1 rfl (Nat.le_of_ble_eq_true rfl) dX5_restOf_2) (fun E ce q9 w' H locs hp hB hce hcv hcl => ?_) (fun o w' H locs hp hB => ?_)
  · obtain ⟨he3, hE4, rfl⟩ := hp
    replace hR := ifn (ne_mt hE4 (by decide)) hR
    rw [← hQ]
    exact thrown_on hX hne hB hA3 hce hcv hcl (by obtain ⟨rfl, rfl, rfl, rfl, rfl⟩ := pr5 hR; exact ⟨he3, ((by decide : ∀ x ∈ (["java/lang/IndexOutOfBoundsException"] : List String), x ∈ (["java/lang/IndexOutOfBoundsException", "java/lang/IllegalArgumentException", "java/lang/IllegalStateException"] : List String)) _ hE4), (fun h => h), rfl, rfl⟩) (Nat.le_of_ble_eq_true rfl) (Nat.le_of_ble_eq_true rfl)
  obtain ⟨he3, hx5, rfl, rfl⟩ := hp
  replace hR := ifp he3 hR
  refine W.eq (g2 := F0 m 5 ls [.ref (a (6 + 2 * x5))]) rfl ?_
  refine lv_astore (lv' := [(4, .ref (a (6 + 2 * x5))), (0, .ref (a 0)), (1, .int p0), (2, .int p1), (3, .int p2)]) hx hb dX5_restOf_5 hl (by decide) rfl (fun ls hl => ?_)
  refine lv_aload_n hx hb dX5_restOf_7 rfl (lv_at hl 1 rfl) ?_
  refine lv_iload_n hx hb dX5_restOf_8 rfl (lv_at hl 3 rfl) ?_
  obtain ⟨E7, x10, hd6⟩ := ex2 (D_X5_needTable r q f p1)
  replace hR := bnd2_use hd6 hR
  refine CX_after2 hX hB (run_XV (n := 1) (As := [.int p1]) (rest := []) hX hB (k_X5_needTable κ l hst a r q f p1 E7 x10 hd6) ⟨rfl, yk_X5_needTable⟩ wm_2_165 wm_2_167 wp_17 wm_1_1 wm_2_168 ⟨Nat.le_of_ble_eq_true rfl, Nat.le_of_ble_eq_true rfl⟩ ⟨Nat.le_of_ble_eq_true rfl, Nat.le_of_ble_eq_true rfl⟩ cw0 rfl rfl rfl hl.1 rfl (Nat.le_of_ble_eq_true rfl) dX5_restOf_9) (fun E ce q9 w' H locs hp hB hce hcv hcl => ?_) (fun o w' H locs hp hB => ?_)
  · obtain ⟨he8, hE9, rfl⟩ := hp
    replace hR := ifn (ne_mt hE9 (by decide)) hR
    rw [← hQ]
    exact thrown_on hX hne hB hA3 hce hcv hcl (by obtain ⟨rfl, rfl, rfl, rfl, rfl⟩ := pr5 hR; exact ⟨he8, ((by decide : ∀ x ∈ (["java/lang/IndexOutOfBoundsException"] : List String), x ∈ (["java/lang/IndexOutOfBoundsException", "java/lang/IllegalArgumentException", "java/lang/IllegalStateException"] : List String)) _ hE9), (fun h => h), rfl, rfl⟩) (Nat.le_of_ble_eq_true rfl) (Nat.le_of_ble_eq_true rfl)
  obtain ⟨he8, hx10, rfl, rfl⟩ := hp
  replace hR := ifp he8 hR
  refine W.eq (g2 := F0 m 12 ls [.ref (a (6 + 2 * x10))]) rfl ?_
  refine lv_astore (lv' := [(5, .ref (a (6 + 2 * x10))), (4, .ref (a (6 + 2 * x5))), (0, .ref (a 0)), (1, .int p0), (2, .int p1), (3, .int p2)]) hx hb dX5_restOf_12 hl (by decide) rfl (fun ls hl => ?_)
  refine lv_aload hx hb dX5_restOf_14 (lv_at hl 0 rfl) ?_
  refine lv_iconst (v := 0) hx hb dX5_restOf_16 (by decide) ?_
  refine lv_iload_n hx hb dX5_restOf_17 rfl (lv_at hl 5 rfl) ?_
  obtain ⟨x12, hd11⟩ := ex1 (D_X3_hasLine r q f x10 0 p2)
  replace hR := bnd1_use hd11 hR
  refine call_V (n := 2) (As := [.int 0, .int p2]) (rest := []) hX hB (k_X3_hasLine κ l a r q f x10 0 p2 (lt15 hx10) x12 hd11) ⟨rfl, yk_X3_hasLine⟩ wm_3_43 wm_3_44 wm_3_45 wm_1_2 wm_3_46 ⟨Nat.le_of_ble_eq_true rfl, Nat.le_of_ble_eq_true rfl⟩ ⟨Nat.le_of_ble_eq_true rfl, Nat.le_of_ble_eq_true rfl⟩ (cwG (i := x10) (lt15 hx10)) rfl rfl rfl hl.1 rfl (Nat.le_of_ble_eq_true rfl) dX5_restOf_18 (fun o w' H locs hp hB => ?_)
  obtain ⟨rfl, bx12, rfl⟩ := hp
  refine W.eq (g2 := F0 m 21 ls [.int x12]) rfl ?_
  obtain ⟨E14, hd13⟩ := ex1 (D_X5_needIndex r q f x12)
  replace hR := bnd1_use hd13 hR
  refine CX_after2 hX hB (run_XS (n := 1) (As := [.int x12]) (rest := []) hX hB (k_X5_needIndex κ l hst a r q f x12 E14 hd13) yk_X5_needIndex wm_3_47 wm_3_48 wm_1_1 wm_3_49 ⟨Nat.le_of_ble_eq_true rfl, Nat.le_of_ble_eq_true rfl⟩ ⟨Nat.le_of_ble_eq_true rfl, Nat.le_of_ble_eq_true rfl⟩ rfl hl.1 rfl (Nat.le_of_ble_eq_true rfl) dX5_restOf_21) (fun E ce q9 w' H locs hp hB hce hcv hcl => ?_) (fun o w' H locs hp hB => ?_)
  · obtain ⟨he15, hE16, rfl⟩ := hp
    replace hR := ifn (ne_mt hE16 (by decide)) hR
    rw [← hQ]
    exact thrown_on hX hne hB hA3 hce hcv hcl (by obtain ⟨rfl, rfl, rfl, rfl, rfl⟩ := pr5 hR; exact ⟨he15, ((by decide : ∀ x ∈ (["java/lang/IndexOutOfBoundsException"] : List String), x ∈ (["java/lang/IndexOutOfBoundsException", "java/lang/IllegalArgumentException", "java/lang/IllegalStateException"] : List String)) _ hE16), (fun h => h), rfl, rfl⟩) (Nat.le_of_ble_eq_true rfl) (Nat.le_of_ble_eq_true rfl)
  obtain ⟨he15, rfl, rfl⟩ := hp
  replace hR := ifp he15 hR
  refine W.eq (g2 := F0 m 24 ls []) rfl ?_
  refine lv_aload_n hx hb dX5_restOf_24 rfl (lv_at hl 2 rfl) ?_
  refine lv_aload hx hb dX5_restOf_25 (lv_at hl 1 rfl) ?_
  obtain ⟨x18, r19, q21, f23, hd17⟩ := ex4 (D_X5_leavesRests r q f x5)
  replace hR := bnd4_use hd17 hR
  refine call_V (n := 1) (As := [.ref (a (6 + 2 * x5))]) (rest := []) hX hB (k_X5_leavesRests κ l a r q f x5 (lt15 hx5) x18 r19 q21 f23 hd17) ⟨rfl, yk_X5_leavesRests⟩ wm_5_105 wm_5_107 wp_24 wm_1_1 wm_5_108 ⟨Nat.le_of_ble_eq_true rfl, Nat.le_of_ble_eq_true rfl⟩ ⟨Nat.le_of_ble_eq_true rfl, Nat.le_of_ble_eq_true rfl⟩ cw0 rfl rfl rfl hl.1 rfl (Nat.le_of_ble_eq_true rfl) dX5_restOf_27 (fun o w' H locs hp hB => ?_)
  obtain ⟨rfl, bx18, ho20, hq22, rfl⟩ := hp
  refine W.eq (g2 := F0 m 30 ls [.int x18]) rfl ?_
  obtain ⟨E25, hd24⟩ := ex1 (D_X5_needState r19 q21 f23 x18)
  replace hR := bnd1_use hd24 hR
  refine CX_after2 hX hB (run_XS (n := 1) (As := [.int x18]) (rest := []) hX hB (k_X5_needState κ l hst a r19 q21 f23 x18 E25 hd24) yk_X5_needState wm_5_26 wm_5_27 wm_1_1 wm_5_28 ⟨Nat.le_of_ble_eq_true rfl, Nat.le_of_ble_eq_true rfl⟩ ⟨Nat.le_of_ble_eq_true rfl, Nat.le_of_ble_eq_true rfl⟩ rfl hl.1 rfl (Nat.le_of_ble_eq_true rfl) dX5_restOf_30) (fun E ce q9 w' H locs hp hB hce hcv hcl => ?_) (fun o w' H locs hp hB => ?_)
  · obtain ⟨he26, hE27, rfl⟩ := hp
    replace hR := ifn (ne_mt hE27 (by decide)) hR
    rw [← hQ]
    exact thrown_on hX hne hB hA3 hce hcv hcl (by obtain ⟨rfl, rfl, rfl, rfl, rfl⟩ := pr5 hR; exact ⟨he26, ((by decide : ∀ x ∈ (["java/lang/IllegalStateException"] : List String), x ∈ (["java/lang/IndexOutOfBoundsException", "java/lang/IllegalArgumentException", "java/lang/IllegalStateException"] : List String)) _ hE27), (fun h => ho20 ((fun h => h) h)), (hq22.trans rfl), rfl⟩) (Nat.le_of_ble_eq_true rfl) (Nat.le_of_ble_eq_true rfl)
  obtain ⟨he26, rfl, rfl⟩ := hp
  replace hR := ifp he26 hR
  refine W.eq (g2 := F0 m 33 ls []) rfl ?_
  refine lv_aload hx hb dX5_restOf_33 (lv_at hl 1 rfl) ?_
  refine gfN hX hB (cwG (i := x5) (lt15 hx5)) rfl in3 2 (by decide) wn_1_57 rfl rfl dX5_restOf_35 ?_
  refine lv_aload hx hb dX5_restOf_38 (lv_at hl 0 rfl) ?_
  refine gfN hX hB (cwG (i := x10) (lt15 hx10)) rfl in3 2 (by decide) wn_1_57 rfl rfl dX5_restOf_40 ?_
  have jn51 : ∀ (z0_51 : Int32) (H : Heap) (locs : List Loc), (z0_51 = 0 ∨ z0_51 = 1) → D_X5_restOf_j51 p2 x5 x10 r19 q21 f23 z0_51 = (o_E, o_x, o_r, o_q, o_f) → Bd κ A s (cw κ a r19 q21 f23) H locs → ∀ ls : Array Slot, lv_has ls 14 [(5, .ref (a (6 + 2 * x10))), (4, .ref (a (6 + 2 * x5))), (0, .ref (a 0)), (1, .int p0), (2, .int p1), (3, .int p2)] → W p l e (Rm 7 186 5 30) s m args below meth c H locs 4 24 Q (F0 m 51 ls [.int z0_51]) := by
    intro z0_51 H locs hz0_51 hR hB ls hl
    replace hR := (D_X5_restOf_j51_s).symm.trans hR
    obtain ⟨E30, hd29⟩ := ex1 (D_X5_needArgument r19 q21 f23 z0_51)
    replace hR := bnd1_use hd29 hR
    refine CX_after2 hX hB (run_XS (n := 1) (As := [.int z0_51]) (rest := []) hX hB (k_X5_needArgument κ l hst a r19 q21 f23 z0_51 E30 hd29) yk_X5_needArgument wm_3_0 wm_3_1 wm_1_1 wm_3_2 ⟨Nat.le_of_ble_eq_true rfl, Nat.le_of_ble_eq_true rfl⟩ ⟨Nat.le_of_ble_eq_true rfl, Nat.le_of_ble_eq_true rfl⟩ rfl hl.1 rfl (Nat.le_of_ble_eq_true rfl) dX5_restOf_51) (fun E ce q9 w' H locs hp hB hce hcv hcl => ?_) (fun o w' H locs hp hB => ?_)
    · obtain ⟨he31, hE32, rfl⟩ := hp
      replace hR := ifn (ne_mt hE32 (by decide)) hR
      rw [← hQ]
      exact thrown_on hX hne hB hA3 hce hcv hcl (by obtain ⟨rfl, rfl, rfl, rfl, rfl⟩ := pr5 hR; exact ⟨he31, ((by decide : ∀ x ∈ (["java/lang/IllegalArgumentException"] : List String), x ∈ (["java/lang/IndexOutOfBoundsException", "java/lang/IllegalArgumentException", "java/lang/IllegalStateException"] : List String)) _ hE32), (fun h => ho20 ((fun h => h) h)), (hq22.trans rfl), rfl⟩) (Nat.le_of_ble_eq_true rfl) (Nat.le_of_ble_eq_true rfl)
    obtain ⟨he31, rfl, rfl⟩ := hp
    replace hR := ifp he31 hR
    refine W.eq (g2 := F0 m 54 ls []) rfl ?_
    refine lv_iconst (v := 0) hx hb dX5_restOf_54 (by decide) ?_
    refine lv_istore (lv' := [(6, .int 0), (5, .ref (a (6 + 2 * x10))), (4, .ref (a (6 + 2 * x5))), (0, .ref (a 0)), (1, .int p0), (2, .int p1), (3, .int p2)]) hx hb dX5_restOf_55 hl (by decide) rfl (fun ls hl => ?_)
    have lp57 : ∀ (nn57 : Nat) (y6_57 : Int32) (f_57 : Nat → Nat → Int64) (H : Heap) (locs : List Loc), gap (r19 (2 * x5 + 1)) y6_57 < nn57 → D_X5_restOf_57 p2 x5 x10 r19 q21 nn57 y6_57 f_57 = (o_E, o_x, o_r, o_q, o_f) → Bd κ A s (cw κ a r19 q21 f_57) H locs → ∀ ls : Array Slot, lv_has ls 14 [(6, .int y6_57), (5, .ref (a (6 + 2 * x10))), (4, .ref (a (6 + 2 * x5))), (0, .ref (a 0)), (1, .int p0), (2, .int p1), (3, .int p2)] → W p l e (Rm 7 186 5 30) s m args below meth c H locs 5 30 Q (F0 m 57 ls []) := by
      intro nn57
      induction nn57 with
      | zero => intro y6_57 f_57 H locs hμ; exact absurd hμ (Nat.not_lt_zero _)
      | succ nn57 ih57 =>
        intro y6_57 f_57 H locs hμ57 hR hB ls hl
        replace hR := (D_X5_restOf_57_s).symm.trans hR
        refine lv_iload hx hb dX5_restOf_57 (lv_at hl 0 rfl) ?_
        refine lv_aload hx hb dX5_restOf_59 (lv_at hl 2 rfl) ?_
        refine gfN hX hB (cwG (i := x5) (lt15 hx5)) rfl in3 2 (by decide) wn_1_57 rfl rfl dX5_restOf_61 ?_
        refine lv_icmp_ge (tgt := 87) hx hb dX5_restOf_64 (by decide) (fun c373 => ?_) (fun c373 => ?_)
        · replace hR := ifp c373 hR
          refine lv_lconst (v := 0) hx hb dX5_restOf_87 (by decide) ?_
          refine lv_lstore (lv' := [(6, .long 0), (5, .ref (a (6 + 2 * x10))), (4, .ref (a (6 + 2 * x5))), (0, .ref (a 0)), (1, .int p0), (2, .int p1), (3, .int p2)]) hx hb dX5_restOf_88 hl (by decide) rfl (fun ls hl => ?_)
          refine lv_iconst (v := 0) hx hb dX5_restOf_90 (by decide) ?_
          refine lv_istore (lv' := [(8, .int 0), (6, .long 0), (5, .ref (a (6 + 2 * x10))), (4, .ref (a (6 + 2 * x5))), (0, .ref (a 0)), (1, .int p0), (2, .int p1), (3, .int p2)]) hx hb dX5_restOf_91 hl (by decide) rfl (fun ls hl => ?_)
          have lp93 : ∀ (nn93 : Nat) (y8_93 : Int32) (y6_93 : Int64) (f_93 : Nat → Nat → Int64) (H : Heap) (locs : List Loc), gap (r19 (2 * x5 + 1)) y8_93 < nn93 → D_X5_restOf_93 x5 r19 q21 nn93 y8_93 y6_93 f_93 = (o_E, o_x, o_r, o_q, o_f) → Bd κ A s (cw κ a r19 q21 f_93) H locs → ∀ ls : Array Slot, lv_has ls 14 [(8, .int y8_93), (6, .long y6_93), (5, .ref (a (6 + 2 * x10))), (4, .ref (a (6 + 2 * x5))), (0, .ref (a 0)), (1, .int p0), (2, .int p1), (3, .int p2)] → W p l e (Rm 7 186 5 30) s m args below meth c H locs 5 30 Q (F0 m 93 ls []) := by
            intro nn93
            induction nn93 with
            | zero => intro y8_93 y6_93 f_93 H locs hμ; exact absurd hμ (Nat.not_lt_zero _)
            | succ nn93 ih93 =>
              intro y8_93 y6_93 f_93 H locs hμ93 hR hB ls hl
              replace hR := (D_X5_restOf_93_s).symm.trans hR
              refine lv_iload hx hb dX5_restOf_93 (lv_at hl 0 rfl) ?_
              refine lv_aload hx hb dX5_restOf_95 (lv_at hl 3 rfl) ?_
              refine gfN hX hB (cwG (i := x5) (lt15 hx5)) rfl in3 2 (by decide) wn_1_57 rfl rfl dX5_restOf_97 ?_
              refine lv_icmp_ge (tgt := 202) hx hb dX5_restOf_100 (by decide) (fun c484 => ?_) (fun c484 => ?_)
              · replace hR := ifp c484 hR
                refine lv_lload hx hb dX5_restOf_202 (lv_at hl 1 rfl) ?_
                refine lv_l2i hx hb dX5_restOf_204 rfl ?_
                rw [← hQ]
                exact vx_ret ( end_i hX hB hA3 rfl rfl (by obtain ⟨rfl, rfl, rfl, rfl, rfl⟩ := pr5 hR; exact ⟨rfl, rfl, (fun h => ho20 ((fun h => h) h)), (hq22.trans rfl), rfl⟩) (Nat.le_of_ble_eq_true rfl) (Nat.le_of_ble_eq_true rfl) dX5_restOf_205)
              · replace hR := ifn c484 hR
                refine lv_aload_n hx hb dX5_restOf_103 rfl (lv_at hl 4 rfl) ?_
                refine gf hX hB cw0 rfl in5 3 (by decide) wm_1_140 rfl rfl dX5_restOf_104 ?_
                refine gfN hX hB cw2 rfl in4 0 (by decide) wn_1_75 rfl rfl dX5_restOf_107 ?_
                refine lv_iload hx hb dX5_restOf_110 (lv_at hl 0 rfl) ?_
                refine lv_iload hx hb dX5_restOf_112 (lv_at hl 0 rfl) ?_
                obtain ⟨x486, hd485⟩ := ex1 (D_X3_get r19 q21 f_93 6 y8_93 y8_93)
                replace hR := bnd1_use hd485 hR
                refine call_V (n := 2) (As := [.int y8_93, .int y8_93]) (rest := []) hX hB (k_X3_get κ l a r19 q21 f_93 6 y8_93 y8_93 (by decide) x486 hd485) ⟨rfl, yk_X3_get⟩ wm_2_123 wm_1_187 wm_1_188 wm_1_2 wm_1_189 ⟨Nat.le_of_ble_eq_true rfl, Nat.le_of_ble_eq_true rfl⟩ ⟨Nat.le_of_ble_eq_true rfl, Nat.le_of_ble_eq_true rfl⟩ (cwG (i := 6) (by decide)) rfl rfl rfl hl.1 rfl (Nat.le_of_ble_eq_true rfl) dX5_restOf_114 (fun o w' H locs hp hB => ?_)
                obtain ⟨rfl, rfl⟩ := hp
                refine W.eq (g2 := F0 m 117 ls [.long x486]) rfl ?_
                refine lv_lstore (lv' := [(9, .long x486), (8, .int y8_93), (6, .long y6_93), (5, .ref (a (6 + 2 * x10))), (4, .ref (a (6 + 2 * x5))), (0, .ref (a 0)), (1, .int p0), (2, .int p1), (3, .int p2)]) hx hb dX5_restOf_117 hl (by decide) rfl (fun ls hl => ?_)
                refine lv_aload_n hx hb dX5_restOf_119 rfl (lv_at hl 5 rfl) ?_
                refine lv_iload hx hb dX5_restOf_120 (lv_at hl 1 rfl) ?_
                obtain ⟨x488, hd487⟩ := ex1 (D_X5_rowNumber r19 q21 f_93 y8_93)
                replace hR := bnd1_use hd487 hR
                refine call_V (n := 1) (As := [.int y8_93]) (rest := []) hX hB (k_X5_rowNumber κ l a r19 q21 f_93 y8_93 x488 hd487) ⟨rfl, yk_X5_rowNumber⟩ wm_5_114 wm_5_116 wp_26 wm_1_1 wm_5_117 ⟨Nat.le_of_ble_eq_true rfl, Nat.le_of_ble_eq_true rfl⟩ ⟨Nat.le_of_ble_eq_true rfl, Nat.le_of_ble_eq_true rfl⟩ cw0 rfl rfl rfl hl.1 rfl (Nat.le_of_ble_eq_true rfl) dX5_restOf_122 (fun o w' H locs hp hB => ?_)
                obtain ⟨rfl, rfl⟩ := hp
                refine W.eq (g2 := F0 m 125 ls [.long x488]) rfl ?_
                refine lv_lload hx hb dX5_restOf_125 (lv_at hl 0 rfl) ?_
                obtain ⟨x489, hd490⟩ := ex1 (D_X5_divideDown x488 x486)
                replace hR := bnd1_use hd490 hR
                refine call_S (n := 2) (As := [.long x488, .long x486]) (rest := []) hX hB (k_X5_divideDown κ l (cw κ a r19 q21 f_93) x488 x486  x489 hd490) yk_X5_divideDown wm_5_113 wm_2_17 wm_1_1 wm_2_18 ⟨Nat.le_of_ble_eq_true rfl, Nat.le_of_ble_eq_true rfl⟩ ⟨Nat.le_of_ble_eq_true rfl, Nat.le_of_ble_eq_true rfl⟩ rfl hl.1 rfl (Nat.le_of_ble_eq_true rfl) dX5_restOf_127 (fun o w' H locs hp hB => ?_)
                obtain ⟨rfl, hw9⟩ := hp
                rw [hw9] at hB
                refine W.eq (g2 := F0 m 130 ls [.long x489]) rfl ?_
                refine lv_lstore (lv' := [(11, .long x489), (9, .long x486), (8, .int y8_93), (6, .long y6_93), (5, .ref (a (6 + 2 * x10))), (4, .ref (a (6 + 2 * x5))), (0, .ref (a 0)), (1, .int p0), (2, .int p1), (3, .int p2)]) hx hb dX5_restOf_130 hl (by decide) rfl (fun ls hl => ?_)
                refine lv_iload hx hb dX5_restOf_132 (lv_at hl 2 rfl) ?_
                refine lv_istore (lv' := [(13, .int y8_93), (11, .long x489), (9, .long x486), (8, .int y8_93), (6, .long y6_93), (5, .ref (a (6 + 2 * x10))), (4, .ref (a (6 + 2 * x5))), (0, .ref (a 0)), (1, .int p0), (2, .int p1), (3, .int p2)]) hx hb dX5_restOf_134 hl (by decide) rfl (fun ls hl => ?_)
                have lp136 : ∀ (nn136 : Nat) (y13_136 : Int32) (f_136 : Nat → Nat → Int64) (H : Heap) (locs : List Loc), gap (r19 (2 * x5 + 1)) y13_136 < nn136 → D_X5_restOf_136 x5 r19 q21 (D_X5_restOf_93 x5 r19 q21 nn93) y8_93 y6_93 x486 x489 nn136 y13_136 f_136 = (o_E, o_x, o_r, o_q, o_f) → Bd κ A s (cw κ a r19 q21 f_136) H locs → ∀ ls : Array Slot, lv_has ls 14 [(13, .int y13_136), (11, .long x489), (9, .long x486), (8, .int y8_93), (6, .long y6_93), (5, .ref (a (6 + 2 * x10))), (4, .ref (a (6 + 2 * x5))), (0, .ref (a 0)), (1, .int p0), (2, .int p1), (3, .int p2)] → W p l e (Rm 7 186 5 30) s m args below meth c H locs 5 30 Q (F0 m 136 ls []) := by
                  intro nn136
                  induction nn136 with
                  | zero => intro y13_136 f_136 H locs hμ; exact absurd hμ (Nat.not_lt_zero _)
                  | succ nn136 ih136 =>
                    intro y13_136 f_136 H locs hμ136 hR hB ls hl
                    replace hR := (D_X5_restOf_136_s).symm.trans hR
                    refine lv_iload hx hb dX5_restOf_136 (lv_at hl 0 rfl) ?_
                    refine lv_aload hx hb dX5_restOf_138 (lv_at hl 6 rfl) ?_
                    refine gfN hX hB (cwG (i := x5) (lt15 hx5)) rfl in3 2 (by decide) wn_1_57 rfl rfl dX5_restOf_140 ?_
                    refine lv_icmp_ge (tgt := 182) hx hb dX5_restOf_143 (by decide) (fun c530 => ?_) (fun c530 => ?_)
                    · replace hR := ifp c530 hR
                      refine lv_lload hx hb dX5_restOf_182 (lv_at hl 4 rfl) ?_
                      refine lv_lload hx hb dX5_restOf_184 (lv_at hl 2 rfl) ?_
                      refine lv_lmul hx hb dX5_restOf_186 ?_
                      refine lv_aload_n hx hb dX5_restOf_187 rfl (lv_at hl 7 rfl) ?_
                      refine lv_iload hx hb dX5_restOf_188 (lv_at hl 3 rfl) ?_
                      obtain ⟨x532, hd531⟩ := ex1 (D_X5_rowNumber r19 q21 f_136 y8_93)
                      replace hR := bnd1_use hd531 hR
                      refine call_V (n := 1) (As := [.int y8_93]) (rest := [.long (y6_93 * x486)]) hX hB (k_X5_rowNumber κ l a r19 q21 f_136 y8_93 x532 hd531) ⟨rfl, yk_X5_rowNumber⟩ wm_5_114 wm_5_116 wp_26 wm_1_1 wm_5_117 ⟨Nat.le_of_ble_eq_true rfl, Nat.le_of_ble_eq_true rfl⟩ ⟨Nat.le_of_ble_eq_true rfl, Nat.le_of_ble_eq_true rfl⟩ cw0 rfl rfl rfl hl.1 rfl (Nat.le_of_ble_eq_true rfl) dX5_restOf_190 (fun o w' H locs hp hB => ?_)
                      obtain ⟨rfl, rfl⟩ := hp
                      refine W.eq (g2 := F0 m 193 ls [.long x532, .long (y6_93 * x486)]) rfl ?_
                      refine lv_ladd hx hb dX5_restOf_193 ?_
                      refine lv_lstore (lv' := [(6, .long ((y6_93 * x486) + x532)), (13, .int y13_136), (11, .long x489), (9, .long x486), (8, .int y8_93), (5, .ref (a (6 + 2 * x10))), (4, .ref (a (6 + 2 * x5))), (0, .ref (a 0)), (1, .int p0), (2, .int p1), (3, .int p2)]) hx hb dX5_restOf_194 hl (by decide) rfl (fun ls hl => ?_)
                      refine lv_iinc (v := y8_93 + 1) (lv' := [(8, .int (y8_93 + 1)), (6, .long ((y6_93 * x486) + x532)), (13, .int y13_136), (11, .long x489), (9, .long x486), (5, .ref (a (6 + 2 * x10))), (4, .ref (a (6 + 2 * x5))), (0, .ref (a 0)), (1, .int p0), (2, .int p1), (3, .int p2)]) hx hb dX5_restOf_196 hl (k := 4) rfl rfl (by decide) rfl (fun ls hl => ?_)
                      refine lv_goto (tgt := 93) hx hb dX5_restOf_199 (by decide) ?_
                      exact ih93 (y8_93 + 1) ((y6_93 * x486) + x532) f_136 _ _  (gap_step c484 hμ93) hR hB _ (lv_sub hl [0, 1, 5, 6, 7, 8, 9, 10] rfl)
                    · replace hR := ifn c530 hR
                      refine lv_aload_n hx hb dX5_restOf_146 rfl (lv_at hl 7 rfl) ?_
                      refine lv_iload hx hb dX5_restOf_147 (lv_at hl 0 rfl) ?_
                      refine lv_aload_n hx hb dX5_restOf_149 rfl (lv_at hl 7 rfl) ?_
                      refine lv_iload hx hb dX5_restOf_150 (lv_at hl 0 rfl) ?_
                      obtain ⟨x534, hd533⟩ := ex1 (D_X5_rowNumber r19 q21 f_136 y13_136)
                      replace hR := bnd1_use hd533 hR
                      refine call_V (n := 1) (As := [.int y13_136]) (rest := [.int y13_136, .ref (a 0)]) hX hB (k_X5_rowNumber κ l a r19 q21 f_136 y13_136 x534 hd533) ⟨rfl, yk_X5_rowNumber⟩ wm_5_114 wm_5_116 wp_26 wm_1_1 wm_5_117 ⟨Nat.le_of_ble_eq_true rfl, Nat.le_of_ble_eq_true rfl⟩ ⟨Nat.le_of_ble_eq_true rfl, Nat.le_of_ble_eq_true rfl⟩ cw0 rfl rfl rfl hl.1 rfl (Nat.le_of_ble_eq_true rfl) dX5_restOf_152 (fun o w' H locs hp hB => ?_)
                      obtain ⟨rfl, rfl⟩ := hp
                      refine W.eq (g2 := F0 m 155 ls [.long x534, .int y13_136, .ref (a 0)]) rfl ?_
                      refine lv_lload hx hb dX5_restOf_155 (lv_at hl 1 rfl) ?_
                      refine lv_aload_n hx hb dX5_restOf_157 rfl (lv_at hl 7 rfl) ?_
                      refine gf hX hB cw0 rfl in5 3 (by decide) wm_1_140 rfl rfl dX5_restOf_158 ?_
                      refine gfN hX hB cw2 rfl in4 0 (by decide) wn_1_75 rfl rfl dX5_restOf_161 ?_
                      refine lv_iload hx hb dX5_restOf_164 (lv_at hl 3 rfl) ?_
                      refine lv_iload hx hb dX5_restOf_166 (lv_at hl 0 rfl) ?_
                      obtain ⟨x536, hd535⟩ := ex1 (D_X3_get r19 q21 f_136 6 y8_93 y13_136)
                      replace hR := bnd1_use hd535 hR
                      refine call_V (n := 2) (As := [.int y8_93, .int y13_136]) (rest := [.long x489, .long x534, .int y13_136, .ref (a 0)]) hX hB (k_X3_get κ l a r19 q21 f_136 6 y8_93 y13_136 (by decide) x536 hd535) ⟨rfl, yk_X3_get⟩ wm_2_123 wm_1_187 wm_1_188 wm_1_2 wm_1_189 ⟨Nat.le_of_ble_eq_true rfl, Nat.le_of_ble_eq_true rfl⟩ ⟨Nat.le_of_ble_eq_true rfl, Nat.le_of_ble_eq_true rfl⟩ (cwG (i := 6) (by decide)) rfl rfl rfl hl.1 rfl (Nat.le_of_ble_eq_true rfl) dX5_restOf_168 (fun o w' H locs hp hB => ?_)
                      obtain ⟨rfl, rfl⟩ := hp
                      refine W.eq (g2 := F0 m 171 ls [.long x536, .long x489, .long x534, .int y13_136, .ref (a 0)]) rfl ?_
                      refine lv_lmul hx hb dX5_restOf_171 ?_
                      refine lv_lsub hx hb dX5_restOf_172 ?_
                      obtain ⟨f538, hd537⟩ := ex1 (D_X5_setRowNumber r19 q21 f_136 y13_136 (x534 - (x489 * x536)))
                      replace hR := bnd1_use hd537 hR
                      refine call_V (n := 2) (As := [.int y13_136, .long (x534 - (x489 * x536))]) (rest := []) hX hB (k_X5_setRowNumber κ l a r19 q21 f_136 y13_136 (x534 - (x489 * x536)) f538 hd537) ⟨rfl, yk_X5_setRowNumber⟩ wm_5_109 wm_5_111 wp_25 wm_1_1 wm_5_112 ⟨Nat.le_of_ble_eq_true rfl, Nat.le_of_ble_eq_true rfl⟩ ⟨Nat.le_of_ble_eq_true rfl, Nat.le_of_ble_eq_true rfl⟩ cw0 rfl rfl rfl hl.1 rfl (Nat.le_of_ble_eq_true rfl) dX5_restOf_173 (fun o w' H locs hp hB => ?_)
                      obtain ⟨rfl, rfl⟩ := hp
                      refine W.eq (g2 := F0 m 176 ls []) rfl ?_
                      refine lv_iinc (v := y13_136 + 1) (lv' := [(13, .int (y13_136 + 1)), (11, .long x489), (9, .long x486), (8, .int y8_93), (6, .long y6_93), (5, .ref (a (6 + 2 * x10))), (4, .ref (a (6 + 2 * x5))), (0, .ref (a 0)), (1, .int p0), (2, .int p1), (3, .int p2)]) hx hb dX5_restOf_176 hl (k := 0) rfl rfl (by decide) rfl (fun ls hl => ?_)
                      refine lv_goto (tgt := 136) hx hb dX5_restOf_179 (by decide) ?_
                      exact ih136 (y13_136 + 1) f538 _ _  (gap_step c530 hμ136) hR hB _ hl
                exact lp136 _ y8_93 f_93 _ _  (Nat.lt_succ_self _) hR hB _ hl
          exact lp93 _ 0 0 f_57 _ _  (Nat.lt_succ_self _) hR hB _ hl
        · replace hR := ifn c373 hR
          refine lv_aload_n hx hb dX5_restOf_67 rfl (lv_at hl 3 rfl) ?_
          refine lv_iload hx hb dX5_restOf_68 (lv_at hl 0 rfl) ?_
          refine lv_aload hx hb dX5_restOf_70 (lv_at hl 1 rfl) ?_
          refine lv_iload_n hx hb dX5_restOf_72 rfl (lv_at hl 6 rfl) ?_
          refine lv_iload hx hb dX5_restOf_73 (lv_at hl 0 rfl) ?_
          obtain ⟨x540, hd539⟩ := ex1 (D_X3_get r19 q21 f_57 x10 p2 y6_57)
          replace hR := bnd1_use hd539 hR
          refine call_V (n := 2) (As := [.int p2, .int y6_57]) (rest := [.int y6_57, .ref (a 0)]) hX hB (k_X3_get κ l a r19 q21 f_57 x10 p2 y6_57 (lt15 hx10) x540 hd539) ⟨rfl, yk_X3_get⟩ wm_2_123 wm_1_187 wm_1_188 wm_1_2 wm_1_189 ⟨Nat.le_of_ble_eq_true rfl, Nat.le_of_ble_eq_true rfl⟩ ⟨Nat.le_of_ble_eq_true rfl, Nat.le_of_ble_eq_true rfl⟩ (cwG (i := x10) (lt15 hx10)) rfl rfl rfl hl.1 rfl (Nat.le_of_ble_eq_true rfl) dX5_restOf_75 (fun o w' H locs hp hB => ?_)
          obtain ⟨rfl, rfl⟩ := hp
          refine W.eq (g2 := F0 m 78 ls [.long x540, .int y6_57, .ref (a 0)]) rfl ?_
          obtain ⟨f542, hd541⟩ := ex1 (D_X5_setRowNumber r19 q21 f_57 y6_57 x540)
          replace hR := bnd1_use hd541 hR
          refine call_V (n := 2) (As := [.int y6_57, .long x540]) (rest := []) hX hB (k_X5_setRowNumber κ l a r19 q21 f_57 y6_57 x540 f542 hd541) ⟨rfl, yk_X5_setRowNumber⟩ wm_5_109 wm_5_111 wp_25 wm_1_1 wm_5_112 ⟨Nat.le_of_ble_eq_true rfl, Nat.le_of_ble_eq_true rfl⟩ ⟨Nat.le_of_ble_eq_true rfl, Nat.le_of_ble_eq_true rfl⟩ cw0 rfl rfl rfl hl.1 rfl (Nat.le_of_ble_eq_true rfl) dX5_restOf_78 (fun o w' H locs hp hB => ?_)
          obtain ⟨rfl, rfl⟩ := hp
          refine W.eq (g2 := F0 m 81 ls []) rfl ?_
          refine lv_iinc (v := y6_57 + 1) (lv' := [(6, .int (y6_57 + 1)), (5, .ref (a (6 + 2 * x10))), (4, .ref (a (6 + 2 * x5))), (0, .ref (a 0)), (1, .int p0), (2, .int p1), (3, .int p2)]) hx hb dX5_restOf_81 hl (k := 0) rfl rfl (by decide) rfl (fun ls hl => ?_)
          refine lv_goto (tgt := 57) hx hb dX5_restOf_84 (by decide) ?_
          exact ih57 (y6_57 + 1) f542 _ _  (gap_step c373 hμ57) hR hB _ hl
    exact lp57 _ 0 f23 _ _  (Nat.lt_succ_self _) hR hB _ hl
  refine lv_icmp_ne (tgt := 50) hx hb dX5_restOf_43 (by decide) (fun c543 => ?_) (fun c543 => ?_)
  · replace hR := ifn c543 hR
    refine lv_iconst (v := 0) hx hb dX5_restOf_50 (by decide) ?_
    exact jn51 0 _ _ (Or.inl rfl) hR hB _ hl
  · replace hR := ifp c543 hR
    refine lv_iconst (v := 1) hx hb dX5_restOf_46 (by decide) ?_
    refine lv_goto (tgt := 51) hx hb dX5_restOf_47 (by decide) ?_
    exact jn51 1 _ _ (Or.inr rfl) hR hB _ hl
noncomputable def D_X5_house_j14 (r : Nat → Int32) (q : Nat → Int32) (f : Nat → Nat → Int64) (p0 : Int32) (z0_14 : Int32) : String × Int32 × (Nat → Int32) × (Nat → Int32) × (Nat → Nat → Int64) := bnd1 (D_X5_needArgument r q f z0_14) (fun (E4 : String) => (if E4 = "" then bnd1 (D_X5_countHouse r q f p0) (fun (x8 : Int32) => ("", x8, r, q, f)) else (E4, 0, r, q, f)))
theorem D_X5_house_j14_s {r : Nat → Int32} {q : Nat → Int32} {f : Nat → Nat → Int64} {p0 : Int32} {z0_14 : Int32} : D_X5_house_j14 r q f p0 z0_14 = bnd1 (D_X5_needArgument r q f z0_14) (fun (E4 : String) => (if E4 = "" then bnd1 (D_X5_countHouse r q f p0) (fun (x8 : Int32) => ("", x8, r, q, f)) else (E4, 0, r, q, f))) := rfl
noncomputable def D_X5_house (r : Nat → Int32) (q : Nat → Int32) (f : Nat → Nat → Int64) (p0 : Int32) : String × Int32 × (Nat → Int32) × (Nat → Int32) × (Nat → Nat → Int64) := (if p0 < 0 then (D_X5_house_j14 r q f p0 0) else (if 3 < p0 then (D_X5_house_j14 r q f p0 0) else (D_X5_house_j14 r q f p0 1)))
theorem D_X5_house_s {r : Nat → Int32} {q : Nat → Int32} {f : Nat → Nat → Int64} {p0 : Int32} : D_X5_house r q f p0 = (if p0 < 0 then (D_X5_house_j14 r q f p0 0) else (if 3 < p0 then (D_X5_house_j14 r q f p0 0) else (D_X5_house_j14 r q f p0 1))) := rfl
set_option maxHeartbeats 4000000 in
set_option maxRecDepth 100000 in
theorem k_X5_house (κ : Kt) (l : Launch) (hst : l.stackTraces = false) (a : Nat → Nat) (r q : Nat → Int32) (f : Nat → Nat → Int64) (p0 : Int32)  (o_E : String) (o_x : Int32) (o_r : Nat → Int32) (o_q : Nat → Int32) (o_f : Nat → Nat → Int64) (hR : D_X5_house r q f p0 = (o_E, o_x, o_r, o_q, o_f)) : CX κ l yX5_house cX5_house 2 (some .int) 7 111 1 6 [.ref (a 0), .int p0] (cw κ a r q f) (fun o w' => o_E = "" ∧ o = some (.int o_x) ∧ (okr r → okr o_r) ∧ o_q 4 = q 4 ∧ w' = cw κ a o_r o_q o_f) (fun E w' => o_E = E ∧ o_E ∈ (["java/lang/IllegalArgumentException"] : List String) ∧ (okr r → okr o_r) ∧ o_q 4 = q 4 ∧ w' = cw κ a o_r o_q o_f) := by
  refine CX_begin (by decide) (Nat.le_of_ble_eq_true rfl) ?_
  intro p e s m args below meth c A Q hX hne hA3 hQ hB ls hl
  have hx := hX.1.1
  have hb := hX.1.2.1
  have hl : lv_has ls 2 [(0, .ref (a 0)), (1, .int p0)] := hl
  replace hR := (D_X5_house_s).symm.trans hR
  refine lv_iload_n hx hb dX5_house_0 rfl (lv_at hl 1 rfl) ?_
  have jn14 : ∀ (z0_14 : Int32) (H : Heap) (locs : List Loc), (z0_14 = 0 ∨ z0_14 = 1) → D_X5_house_j14 r q f p0 z0_14 = (o_E, o_x, o_r, o_q, o_f) → Bd κ A s (cw κ a r q f) H locs → ∀ ls : Array Slot, lv_has ls 2 [(0, .ref (a 0)), (1, .int p0)] → W p l e (Rm 7 111 1 6) s m args below meth c H locs 0 0 Q (F0 m 14 ls [.int z0_14]) := by
    intro z0_14 H locs hz0_14 hR hB ls hl
    replace hR := (D_X5_house_j14_s).symm.trans hR
    obtain ⟨E4, hd3⟩ := ex1 (D_X5_needArgument r q f z0_14)
    replace hR := bnd1_use hd3 hR
    refine CX_after2 hX hB (run_XS (n := 1) (As := [.int z0_14]) (rest := []) hX hB (k_X5_needArgument κ l hst a r q f z0_14 E4 hd3) yk_X5_needArgument wm_3_0 wm_3_1 wm_1_1 wm_3_2 ⟨Nat.le_of_ble_eq_true rfl, Nat.le_of_ble_eq_true rfl⟩ ⟨Nat.le_of_ble_eq_true rfl, Nat.le_of_ble_eq_true rfl⟩ rfl hl.1 rfl (Nat.le_of_ble_eq_true rfl) dX5_house_14) (fun E ce q9 w' H locs hp hB hce hcv hcl => ?_) (fun o w' H locs hp hB => ?_)
    · obtain ⟨he5, hE6, rfl⟩ := hp
      replace hR := ifn (ne_mt hE6 (by decide)) hR
      rw [← hQ]
      exact thrown_on hX hne hB hA3 hce hcv hcl (by obtain ⟨rfl, rfl, rfl, rfl, rfl⟩ := pr5 hR; exact ⟨he5, ((by decide : ∀ x ∈ (["java/lang/IllegalArgumentException"] : List String), x ∈ (["java/lang/IllegalArgumentException"] : List String)) _ hE6), (fun h => h), rfl, rfl⟩) (Nat.le_of_ble_eq_true rfl) (Nat.le_of_ble_eq_true rfl)
    obtain ⟨he5, rfl, rfl⟩ := hp
    replace hR := ifp he5 hR
    refine W.eq (g2 := F0 m 17 ls []) rfl ?_
    refine lv_aload_n hx hb dX5_house_17 rfl (lv_at hl 0 rfl) ?_
    refine lv_iload_n hx hb dX5_house_18 rfl (lv_at hl 1 rfl) ?_
    obtain ⟨x8, hd7⟩ := ex1 (D_X5_countHouse r q f p0)
    replace hR := bnd1_use hd7 hR
    refine call_V (n := 1) (As := [.int p0]) (rest := []) hX hB (k_X5_countHouse κ l a r q f p0 x8 hd7) ⟨rfl, yk_X5_countHouse⟩ wm_2_135 wm_2_137 wp_15 wm_1_1 wm_2_138 ⟨Nat.le_of_ble_eq_true rfl, Nat.le_of_ble_eq_true rfl⟩ ⟨Nat.le_of_ble_eq_true rfl, Nat.le_of_ble_eq_true rfl⟩ cw0 rfl rfl rfl hl.1 rfl (Nat.le_of_ble_eq_true rfl) dX5_house_19 (fun o w' H locs hp hB => ?_)
    obtain ⟨rfl, rfl⟩ := hp
    refine W.eq (g2 := F0 m 22 ls [.int x8]) rfl ?_
    rw [← hQ]
    exact vx_ret ( end_i hX hB hA3 rfl rfl (by obtain ⟨rfl, rfl, rfl, rfl, rfl⟩ := pr5 hR; exact ⟨rfl, rfl, (fun h => h), rfl, rfl⟩) (Nat.le_of_ble_eq_true rfl) (Nat.le_of_ble_eq_true rfl) dX5_house_22)
  refine lv_if_lt (tgt := 13) hx hb dX5_house_1 (by decide) (fun c9 => ?_) (fun c9 => ?_)
  · replace hR := ifp c9 hR
    refine lv_iconst (v := 0) hx hb dX5_house_13 (by decide) ?_
    exact jn14 0 _ _ (Or.inl rfl) hR hB _ hl
  · replace hR := ifn c9 hR
    refine lv_iload_n hx hb dX5_house_4 rfl (lv_at hl 1 rfl) ?_
    refine lv_iconst (v := 3) hx hb dX5_house_5 (by decide) ?_
    refine lv_icmp_gt (tgt := 13) hx hb dX5_house_6 (by decide) (fun c10 => ?_) (fun c10 => ?_)
    · replace hR := ifp c10 hR
      refine lv_iconst (v := 0) hx hb dX5_house_13 (by decide) ?_
      exact jn14 0 _ _ (Or.inl rfl) hR hB _ hl
    · replace hR := ifn c10 hR
      refine lv_iconst (v := 1) hx hb dX5_house_9 (by decide) ?_
      refine lv_goto (tgt := 14) hx hb dX5_house_10 (by decide) ?_
      exact jn14 1 _ _ (Or.inr rfl) hR hB _ hl
noncomputable def D_X5_isSound (r : Nat → Int32) (q : Nat → Int32) (f : Nat → Nat → Int64) : Int32 × (Nat → Int32) × (Nat → Int32) × (Nat → Nat → Int64) := bnd4 (D_X5_isFirstSound r q f) (fun (x2 : Int32) (r3 : Nat → Int32) (q5 : Nat → Int32) (f7 : Nat → Nat → Int64) => (x2, r3, q5, f7))
theorem D_X5_isSound_s {r : Nat → Int32} {q : Nat → Int32} {f : Nat → Nat → Int64} : D_X5_isSound r q f = bnd4 (D_X5_isFirstSound r q f) (fun (x2 : Int32) (r3 : Nat → Int32) (q5 : Nat → Int32) (f7 : Nat → Nat → Int64) => (x2, r3, q5, f7)) := rfl
set_option maxHeartbeats 4000000 in
set_option maxRecDepth 100000 in
theorem k_X5_isSound (κ : Kt) (l : Launch) (a : Nat → Nat) (r q : Nat → Int32) (f : Nat → Nat → Int64) (hok : okr r) (o_x : Int32) (o_r : Nat → Int32) (o_q : Nat → Int32) (o_f : Nat → Nat → Int64) (hR : D_X5_isSound r q f = (o_x, o_r, o_q, o_f)) : CM κ l yX5_isSound cX5_isSound 1 (some .boolean) 9 235 0 0 [.ref (a 0)] (cw κ a r q f) (fun o w' => o = some (.int o_x) ∧ (o_x = 0 ∨ o_x = 1) ∧ (okr r → okr o_r) ∧ o_q 4 = q 4 ∧ w' = cw κ a o_r o_q o_f) := by
  refine CM_begin (plainFor_of_name pn_RX5) (Nat.le_of_ble_eq_true rfl) ?_
  intro p e s m args below meth c A Q hX hnm hA3 hQ hB ls hl
  have hx := hX.1.1
  have hb := hX.1.2.1
  have hl : lv_has ls 1 [(0, .ref (a 0))] := hl
  replace hR := (D_X5_isSound_s).symm.trans hR
  refine lv_aload_n hx hb dX5_isSound_0 rfl (lv_at hl 0 rfl) ?_
  obtain ⟨x2, r3, q5, f7, hd1⟩ := ex4 (D_X5_isFirstSound r q f)
  replace hR := bnd4_use hd1 hR
  refine call_V (n := 0) (As := []) (rest := []) hX hB (k_X5_isFirstSound κ l a r q f ((fun h => h) hok) x2 r3 q5 f7 hd1) ⟨rfl, yk_X5_isFirstSound⟩ wm_1_176 wm_1_178 wp_0 wm_1_1 wm_1_179 ⟨Nat.le_of_ble_eq_true rfl, Nat.le_of_ble_eq_true rfl⟩ ⟨Nat.le_of_ble_eq_true rfl, Nat.le_of_ble_eq_true rfl⟩ cw0 rfl rfl rfl hl.1 rfl (Nat.le_of_ble_eq_true rfl) dX5_isSound_1 (fun o w' H locs hp hB => ?_)
  obtain ⟨rfl, bx2, ho4, hq6, rfl⟩ := hp
  refine W.eq (g2 := F0 m 4 ls [.int x2]) rfl ?_
  rw [← hQ]
  exact end_i hX hB hA3 rfl (nbz (by assumption)) (by obtain ⟨rfl, rfl, rfl, rfl⟩ := pr4 hR; exact ⟨rfl, (by assumption), (fun h => ho4 ((fun h => h) h)), (hq6.trans rfl), rfl⟩) (Nat.le_of_ble_eq_true rfl) (Nat.le_of_ble_eq_true rfl) dX5_isSound_4
noncomputable def D_X5_digest_30 (r : Nat → Int32) (q : Nat → Int32) (f : Nat → Nat → Int64) (nn : Nat) : Int32 → Int64 → Int64 × (Nat → Int32) × (Nat → Int32) × (Nat → Nat → Int64) := @Nat.rec (fun _ => Int32 → Int64 → Int64 × (Nat → Int32) × (Nat → Int32) × (Nat → Nat → Int64)) (fun _ _ => default) (fun _ lb30 (y3_30 : Int32) (y1_30 : Int64) => (if 3 < y3_30 then bnd4 (D_X5_isFirstSound r q f) (fun (x131 : Int32) (r132 : Nat → Int32) (q134 : Nat → Int32) (f136 : Nat → Nat → Int64) => (if x131 = 0 then ((y1_30 * 31) + ((0).toInt64), r132, q134, f136) else ((y1_30 * 31) + ((1).toInt64), r132, q134, f136))) else bnd1 (D_X5_countHouse r q f y3_30) (fun (x139 : Int32) => (lb30 (y3_30 + 1) ((y1_30 * 31) + ((x139).toInt64)))))) nn
theorem D_X5_digest_30_s {r : Nat → Int32} {q : Nat → Int32} {f : Nat → Nat → Int64} {nn : Nat} {y3_30 : Int32} {y1_30 : Int64} : D_X5_digest_30 r q f (nn + 1) y3_30 y1_30 = (if 3 < y3_30 then bnd4 (D_X5_isFirstSound r q f) (fun (x131 : Int32) (r132 : Nat → Int32) (q134 : Nat → Int32) (f136 : Nat → Nat → Int64) => (if x131 = 0 then ((y1_30 * 31) + ((0).toInt64), r132, q134, f136) else ((y1_30 * 31) + ((1).toInt64), r132, q134, f136))) else bnd1 (D_X5_countHouse r q f y3_30) (fun (x139 : Int32) => ((D_X5_digest_30 r q f nn) (y3_30 + 1) ((y1_30 * 31) + ((x139).toInt64))))) := rfl
noncomputable def D_X5_digest_6 (r : Nat → Int32) (q : Nat → Int32) (f : Nat → Nat → Int64) (nn : Nat) : Int32 → Int64 → Int64 × (Nat → Int32) × (Nat → Int32) × (Nat → Nat → Int64) := @Nat.rec (fun _ => Int32 → Int64 → Int64 × (Nat → Int32) × (Nat → Int32) × (Nat → Nat → Int64)) (fun _ _ => default) (fun _ lb6 (y3_6 : Int32) (y1_6 : Int64) => (if 4 ≤ y3_6 then (D_X5_digest_30 r q f (gap1 3 0 + 1) 0 y1_6) else bnd1 (D_X3_mix r q f ((y3_6).toNatClampNeg) y1_6) (fun (x141 : Int64) => (lb6 (y3_6 + 1) x141)))) nn
theorem D_X5_digest_6_s {r : Nat → Int32} {q : Nat → Int32} {f : Nat → Nat → Int64} {nn : Nat} {y3_6 : Int32} {y1_6 : Int64} : D_X5_digest_6 r q f (nn + 1) y3_6 y1_6 = (if 4 ≤ y3_6 then (D_X5_digest_30 r q f (gap1 3 0 + 1) 0 y1_6) else bnd1 (D_X3_mix r q f ((y3_6).toNatClampNeg) y1_6) (fun (x141 : Int64) => ((D_X5_digest_6 r q f nn) (y3_6 + 1) x141))) := rfl
noncomputable def D_X5_digest (r : Nat → Int32) (q : Nat → Int32) (f : Nat → Nat → Int64) : Int64 × (Nat → Int32) × (Nat → Int32) × (Nat → Nat → Int64) := (D_X5_digest_6 r q f (gap 4 0 + 1) 0 8032)
theorem D_X5_digest_s {r : Nat → Int32} {q : Nat → Int32} {f : Nat → Nat → Int64} : D_X5_digest r q f = (D_X5_digest_6 r q f (gap 4 0 + 1) 0 8032) := rfl
set_option maxHeartbeats 4000000 in
set_option maxRecDepth 100000 in
theorem k_X5_digest (κ : Kt) (l : Launch) (a : Nat → Nat) (r q : Nat → Int32) (f : Nat → Nat → Int64) (hok : okr r) (o_x : Int64) (o_r : Nat → Int32) (o_q : Nat → Int32) (o_f : Nat → Nat → Int64) (hR : D_X5_digest r q f = (o_x, o_r, o_q, o_f)) : CM κ l yX5_digest cX5_digest 4 (some .long) 9 235 0 0 [.ref (a 0)] (cw κ a r q f) (fun o w' => o = some (.long o_x) ∧ (okr r → okr o_r) ∧ o_q 4 = q 4 ∧ w' = cw κ a o_r o_q o_f) := by
  refine CM_begin (plainFor_of_name pn_RX5) (Nat.le_of_ble_eq_true rfl) ?_
  intro p e s m args below meth c A Q hX hnm hA3 hQ hB ls hl
  have hx := hX.1.1
  have hb := hX.1.2.1
  have hl : lv_has ls 4 [(0, .ref (a 0))] := hl
  replace hR := (D_X5_digest_s).symm.trans hR
  refine lv_ldc2 (own := RX5) (v := 8032) hx hb hX.1.2.2.2.1 (hX.1.2.2.2.2 _ wm_2_128) dX5_digest_0 ?_
  refine lv_lstore_n (lv' := [(1, .long 8032), (0, .ref (a 0))]) hx hb dX5_digest_3 rfl hl (by decide) rfl (fun ls hl => ?_)
  refine lv_iconst (v := 0) hx hb dX5_digest_4 (by decide) ?_
  refine lv_istore_n (lv' := [(3, .int 0), (1, .long 8032), (0, .ref (a 0))]) hx hb dX5_digest_5 rfl hl (by decide) rfl (fun ls hl => ?_)
  have lp6 : ∀ (nn6 : Nat) (y3_6 : Int32) (y1_6 : Int64) (H : Heap) (locs : List Loc), 0 ≤ y3_6 → gap 4 y3_6 < nn6 → D_X5_digest_6 r q f nn6 y3_6 y1_6 = (o_x, o_r, o_q, o_f) → Bd κ A s (cw κ a r q f) H locs → ∀ ls : Array Slot, lv_has ls 4 [(3, .int y3_6), (1, .long y1_6), (0, .ref (a 0))] → W p l e (Rm 9 235 0 0) s m args below meth c H locs 0 0 Q (F0 m 6 ls []) := by
    intro nn6
    induction nn6 with
    | zero => intro y3_6 y1_6 H locs hn3_6 hμ; exact absurd hμ (Nat.not_lt_zero _)
    | succ nn6 ih6 =>
      intro y3_6 y1_6 H locs hn3_6 hμ6 hR hB ls hl
      replace hR := (D_X5_digest_6_s).symm.trans hR
      refine lv_iload_n hx hb dX5_digest_6 rfl (lv_at hl 0 rfl) ?_
      refine lv_iconst (v := 4) hx hb dX5_digest_7 (by decide) ?_
      refine lv_icmp_ge (tgt := 28) hx hb dX5_digest_8 (by decide) (fun c95 => ?_) (fun c95 => ?_)
      · replace hR := ifp c95 hR
        refine lv_iconst (v := 0) hx hb dX5_digest_28 (by decide) ?_
        refine lv_istore_n (lv' := [(3, .int 0), (1, .long y1_6), (0, .ref (a 0))]) hx hb dX5_digest_29 rfl hl (by decide) rfl (fun ls hl => ?_)
        have lp30 : ∀ (nn30 : Nat) (y3_30 : Int32) (y1_30 : Int64) (H : Heap) (locs : List Loc), gap1 3 y3_30 < nn30 → D_X5_digest_30 r q f nn30 y3_30 y1_30 = (o_x, o_r, o_q, o_f) → Bd κ A s (cw κ a r q f) H locs → ∀ ls : Array Slot, lv_has ls 4 [(3, .int y3_30), (1, .long y1_30), (0, .ref (a 0))] → W p l e (Rm 9 235 0 0) s m args below meth c H locs 0 0 Q (F0 m 30 ls []) := by
          intro nn30
          induction nn30 with
          | zero => intro y3_30 y1_30 H locs hμ; exact absurd hμ (Nat.not_lt_zero _)
          | succ nn30 ih30 =>
            intro y3_30 y1_30 H locs hμ30 hR hB ls hl
            replace hR := (D_X5_digest_30_s).symm.trans hR
            refine lv_iload_n hx hb dX5_digest_30 rfl (lv_at hl 0 rfl) ?_
            refine lv_iconst (v := 3) hx hb dX5_digest_31 (by decide) ?_
            refine lv_icmp_gt (tgt := 54) hx hb dX5_digest_32 (by decide) (fun c129 => ?_) (fun c129 => ?_)
            · replace hR := ifp c129 hR
              refine lv_lload_n hx hb dX5_digest_54 rfl (lv_at hl 1 rfl) ?_
              refine lv_ldc2 (own := RX5) (v := 31) hx hb hX.1.2.2.2.1 (hX.1.2.2.2.2 _ wm_2_134) dX5_digest_55 ?_
              refine lv_lmul hx hb dX5_digest_58 ?_
              refine lv_aload_n hx hb dX5_digest_59 rfl (lv_at hl 2 rfl) ?_
              obtain ⟨x131, r132, q134, f136, hd130⟩ := ex4 (D_X5_isFirstSound r q f)
              replace hR := bnd4_use hd130 hR
              refine call_V (n := 0) (As := []) (rest := [.long (y1_30 * 31)]) hX hB (k_X5_isFirstSound κ l a r q f ((fun h => h) hok) x131 r132 q134 f136 hd130) ⟨rfl, yk_X5_isFirstSound⟩ wm_1_176 wm_1_178 wp_0 wm_1_1 wm_1_179 ⟨Nat.le_of_ble_eq_true rfl, Nat.le_of_ble_eq_true rfl⟩ ⟨Nat.le_of_ble_eq_true rfl, Nat.le_of_ble_eq_true rfl⟩ cw0 rfl rfl rfl hl.1 rfl (Nat.le_of_ble_eq_true rfl) dX5_digest_60 (fun o w' H locs hp hB => ?_)
              obtain ⟨rfl, bx131, ho133, hq135, rfl⟩ := hp
              refine W.eq (g2 := F0 m 63 ls [.int x131, .long (y1_30 * 31)]) rfl ?_
              refine lv_if_eq (tgt := 70) hx hb dX5_digest_63 (by decide) (fun c137 => ?_) (fun c137 => ?_)
              · replace hR := ifp c137 hR
                refine lv_iconst (v := 0) hx hb dX5_digest_70 (by decide) ?_
                refine lv_i2l hx hb dX5_digest_71 rfl ?_
                refine lv_ladd hx hb dX5_digest_72 ?_
                rw [← hQ]
                exact end_l hX hB hA3 rfl (by obtain ⟨rfl, rfl, rfl, rfl⟩ := pr4 hR; exact ⟨rfl, (fun h => ho133 ((fun h => h) h)), (hq135.trans rfl), rfl⟩) (Nat.le_of_ble_eq_true rfl) (Nat.le_of_ble_eq_true rfl) dX5_digest_73
              · replace hR := ifn c137 hR
                refine lv_iconst (v := 1) hx hb dX5_digest_66 (by decide) ?_
                refine lv_goto (tgt := 71) hx hb dX5_digest_67 (by decide) ?_
                refine lv_i2l hx hb dX5_digest_71 rfl ?_
                refine lv_ladd hx hb dX5_digest_72 ?_
                rw [← hQ]
                exact end_l hX hB hA3 rfl (by obtain ⟨rfl, rfl, rfl, rfl⟩ := pr4 hR; exact ⟨rfl, (fun h => ho133 ((fun h => h) h)), (hq135.trans rfl), rfl⟩) (Nat.le_of_ble_eq_true rfl) (Nat.le_of_ble_eq_true rfl) dX5_digest_73
            · replace hR := ifn c129 hR
              refine lv_lload_n hx hb dX5_digest_35 rfl (lv_at hl 1 rfl) ?_
              refine lv_ldc2 (own := RX5) (v := 31) hx hb hX.1.2.2.2.1 (hX.1.2.2.2.2 _ wm_2_134) dX5_digest_36 ?_
              refine lv_lmul hx hb dX5_digest_39 ?_
              refine lv_aload_n hx hb dX5_digest_40 rfl (lv_at hl 2 rfl) ?_
              refine lv_iload_n hx hb dX5_digest_41 rfl (lv_at hl 0 rfl) ?_
              obtain ⟨x139, hd138⟩ := ex1 (D_X5_countHouse r q f y3_30)
              replace hR := bnd1_use hd138 hR
              refine call_V (n := 1) (As := [.int y3_30]) (rest := [.long (y1_30 * 31)]) hX hB (k_X5_countHouse κ l a r q f y3_30 x139 hd138) ⟨rfl, yk_X5_countHouse⟩ wm_2_135 wm_2_137 wp_15 wm_1_1 wm_2_138 ⟨Nat.le_of_ble_eq_true rfl, Nat.le_of_ble_eq_true rfl⟩ ⟨Nat.le_of_ble_eq_true rfl, Nat.le_of_ble_eq_true rfl⟩ cw0 rfl rfl rfl hl.1 rfl (Nat.le_of_ble_eq_true rfl) dX5_digest_42 (fun o w' H locs hp hB => ?_)
              obtain ⟨rfl, rfl⟩ := hp
              refine W.eq (g2 := F0 m 45 ls [.int x139, .long (y1_30 * 31)]) rfl ?_
              refine lv_i2l hx hb dX5_digest_45 rfl ?_
              refine lv_ladd hx hb dX5_digest_46 ?_
              refine lv_lstore_n (lv' := [(1, .long ((y1_30 * 31) + ((x139).toInt64))), (3, .int y3_30), (0, .ref (a 0))]) hx hb dX5_digest_47 rfl hl (by decide) rfl (fun ls hl => ?_)
              refine lv_iinc (v := y3_30 + 1) (lv' := [(3, .int (y3_30 + 1)), (1, .long ((y1_30 * 31) + ((x139).toInt64))), (0, .ref (a 0))]) hx hb dX5_digest_48 hl (k := 1) rfl rfl (by decide) rfl (fun ls hl => ?_)
              refine lv_goto (tgt := 30) hx hb dX5_digest_51 (by decide) ?_
              exact ih30 (y3_30 + 1) ((y1_30 * 31) + ((x139).toInt64)) _ _  (gap1_step (by decide) c129 hμ30) hR hB _ hl
        exact lp30 _ 0 y1_6 _ _  (Nat.lt_succ_self _) hR hB _ hl
      · replace hR := ifn c95 hR
        refine lv_aload_n hx hb dX5_digest_11 rfl (lv_at hl 2 rfl) ?_
        refine gf hX hB cw0 rfl in5 0 (by decide) wm_1_137 rfl rfl dX5_digest_12 ?_
        refine lv_iload_n hx hb dX5_digest_15 rfl (lv_at hl 0 rfl) ?_
        refine aaldG hX hB cw1 (in_of (N := 4) rfl hn3_6 c95) rfl dX5_digest_16 ?_
        refine lv_lload_n hx hb dX5_digest_17 rfl (lv_at hl 1 rfl) ?_
        obtain ⟨x141, hd140⟩ := ex1 (D_X3_mix r q f ((y3_6).toNatClampNeg) y1_6)
        replace hR := bnd1_use hd140 hR
        refine call_V (n := 1) (As := [.long y1_6]) (rest := []) hX hB (k_X3_mix κ l a r q f ((y3_6).toNatClampNeg) y1_6 (lt15 (clamp_lt (in_of (N := 4) rfl hn3_6 c95))) x141 hd140) ⟨rfl, yk_X3_mix⟩ wm_2_129 wm_2_130 wm_2_131 wm_1_2 wm_2_132 ⟨Nat.le_of_ble_eq_true rfl, Nat.le_of_ble_eq_true rfl⟩ ⟨Nat.le_of_ble_eq_true rfl, Nat.le_of_ble_eq_true rfl⟩ (cwG (i := (y3_6).toNatClampNeg) (lt15 (clamp_lt (in_of (N := 4) rfl hn3_6 c95)))) rfl rfl rfl hl.1 rfl (Nat.le_of_ble_eq_true rfl) dX5_digest_18 (fun o w' H locs hp hB => ?_)
        obtain ⟨rfl, rfl⟩ := hp
        refine W.eq (g2 := F0 m 21 ls [.long x141]) rfl ?_
        refine lv_lstore_n (lv' := [(1, .long x141), (3, .int y3_6), (0, .ref (a 0))]) hx hb dX5_digest_21 rfl hl (by decide) rfl (fun ls hl => ?_)
        refine lv_iinc (v := y3_6 + 1) (lv' := [(3, .int (y3_6 + 1)), (1, .long x141), (0, .ref (a 0))]) hx hb dX5_digest_22 hl (k := 1) rfl rfl (by decide) rfl (fun ls hl => ?_)
        refine lv_goto (tgt := 6) hx hb dX5_digest_25 (by decide) ?_
        exact ih6 (y3_6 + 1) x141 _ _ (nn_step hn3_6 c95) (gap_step c95 hμ6) hR hB _ hl
  exact lp6 _ 0 8032 _ _ (by decide) (Nat.lt_succ_self _) hR hB _ hl
noncomputable def D_X5_knock (r : Nat → Int32) (q : Nat → Int32) (f : Nat → Nat → Int64) : Int32 := va_up q 4 ((q 4) + 1) 4
theorem D_X5_knock_s {r : Nat → Int32} {q : Nat → Int32} {f : Nat → Nat → Int64} : D_X5_knock r q f = va_up q 4 ((q 4) + 1) 4 := rfl
set_option maxHeartbeats 4000000 in
set_option maxRecDepth 100000 in
theorem k_X5_knock (κ : Kt) (l : Launch) (a : Nat → Nat) (r q : Nat → Int32) (f : Nat → Nat → Int64)  (o_x : Int32) (hR : D_X5_knock r q f = o_x) : CM κ l yX5_knock cX5_knock 1 (some .int) 0 0 0 0 [.ref (a 0)] (cw κ a r q f) (fun o w' => o = some (.int (q 4 + 1)) ∧ w' = cw κ a r (va_up q 4 (q 4 + 1)) f) := by
  refine CM_begin (plainFor_of_name pn_RX5) (Nat.le_of_ble_eq_true rfl) ?_
  intro p e s m args below meth c A Q hX hnm hA3 hQ hB ls hl
  have hx := hX.1.1
  have hb := hX.1.2.1
  have hl : lv_has ls 1 [(0, .ref (a 0))] := hl
  replace hR := (D_X5_knock_s).symm.trans hR
  refine lv_aload_n hx hb dX5_knock_0 rfl (lv_at hl 0 rfl) ?_
  refine lv_dup hx hb dX5_knock_1 rfl ?_
  refine gf hX hB cw0 rfl in5 9 (by decide) wm_1_146 rfl rfl dX5_knock_2 ?_
  refine lv_iconst (v := 1) hx hb dX5_knock_5 (by decide) ?_
  refine lv_iadd hx hb dX5_knock_6 ?_
  refine pf (ty := .int) hX hB cw0 rfl in5 tyX5_ok nmX5 9 (by decide) wm_1_146 rfl rfl rfl rfl rfl (Nat.le_of_ble_eq_true rfl) (cwSQ4 _) dX5_knock_7 (fun H locs hB => ?_)
  refine lv_aload_n hx hb dX5_knock_10 rfl (lv_at hl 0 rfl) ?_
  refine gf hX hB cw0 rfl in5 9 (by decide) wm_1_146 rfl rfl dX5_knock_11 ?_
  rw [← hQ]
  exact end_i hX hB hA3 rfl rfl (by obtain rfl := hR; exact ⟨rfl, rfl⟩) (Nat.le_of_ble_eq_true rfl) (Nat.le_of_ble_eq_true rfl) dX5_knock_14
end
