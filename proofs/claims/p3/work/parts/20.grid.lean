noncomputable def D_X3_get (r : Nat → Int32) (q : Nat → Int32) (f : Nat → Nat → Int64) (i : Nat) (p0 : Int32) (p1 : Int32) : Int64 := (if p0 < 0 then 0 else (if 4 ≤ p0 then 0 else (if p1 < 0 then 0 else (if p1 < 5 then nm (((f i) ((p0 * 5) + p1).toNatClampNeg) : Int64) (fun (g5 : Int64) => g5) else 0))))
theorem D_X3_get_s {r : Nat → Int32} {q : Nat → Int32} {f : Nat → Nat → Int64} {i : Nat} {p0 : Int32} {p1 : Int32} : D_X3_get r q f i p0 p1 = (if p0 < 0 then 0 else (if 4 ≤ p0 then 0 else (if p1 < 0 then 0 else (if p1 < 5 then nm (((f i) ((p0 * 5) + p1).toNatClampNeg) : Int64) (fun (g5 : Int64) => g5) else 0)))) := rfl
set_option maxHeartbeats 4000000 in
set_option maxRecDepth 100000 in
theorem k_X3_get (κ : Kt) (l : Launch) (a : Nat → Nat) (r q : Nat → Int32) (f : Nat → Nat → Int64) (i : Nat) (p0 : Int32) (p1 : Int32) (hi : i < 15) (o_x : Int64) (hR : D_X3_get r q f i p0 p1 = o_x) : CM κ l yX3_get cX3_get 3 (some .long) 0 0 0 0 [.ref (a (6 + 2 * i)), .int p0, .int p1] (cw κ a r q f) (fun o w' => o = some (.long o_x) ∧ w' = cw κ a r q f) := by
  refine CM_begin (plainFor_of_name (by decide)) (Nat.le_of_ble_eq_true rfl) ?_
  intro p e s m args below meth c A Q hX hnm hA3 hQ hB ls hl
  have hx := hX.1.1
  have hb := hX.1.2.1
  have hl : lv_has ls 3 [(0, .ref (a (6 + 2 * i))), (1, .int p0), (2, .int p1)] := hl
  replace hR := (D_X3_get_s).symm.trans hR
  refine lv_iload_n hx hb dX3_get_0 rfl (lv_at hl 1 rfl) ?_
  refine lv_if_lt (tgt := 18) hx hb dX3_get_1 (by decide) (fun c1 => ?_) (fun c1 => ?_)
  · replace hR := ifp c1 hR
    refine lv_lconst (v := 0) hx hb dX3_get_18 (by decide) ?_
    rw [← hQ]
    exact end_l hX hB hA3 rfl (by obtain rfl := hR; exact ⟨rfl, rfl⟩) (Nat.le_of_ble_eq_true rfl) (Nat.le_of_ble_eq_true rfl) dX3_get_19
  · replace hR := ifn c1 hR
    refine lv_iload_n hx hb dX3_get_4 rfl (lv_at hl 1 rfl) ?_
    refine lv_iconst (v := 4) hx hb dX3_get_5 (by decide) ?_
    refine lv_icmp_ge (tgt := 18) hx hb dX3_get_6 (by decide) (fun c2 => ?_) (fun c2 => ?_)
    · replace hR := ifp c2 hR
      refine lv_lconst (v := 0) hx hb dX3_get_18 (by decide) ?_
      rw [← hQ]
      exact end_l hX hB hA3 rfl (by obtain rfl := hR; exact ⟨rfl, rfl⟩) (Nat.le_of_ble_eq_true rfl) (Nat.le_of_ble_eq_true rfl) dX3_get_19
    · replace hR := ifn c2 hR
      refine lv_iload_n hx hb dX3_get_9 rfl (lv_at hl 2 rfl) ?_
      refine lv_if_lt (tgt := 18) hx hb dX3_get_10 (by decide) (fun c3 => ?_) (fun c3 => ?_)
      · replace hR := ifp c3 hR
        refine lv_lconst (v := 0) hx hb dX3_get_18 (by decide) ?_
        rw [← hQ]
        exact end_l hX hB hA3 rfl (by obtain rfl := hR; exact ⟨rfl, rfl⟩) (Nat.le_of_ble_eq_true rfl) (Nat.le_of_ble_eq_true rfl) dX3_get_19
      · replace hR := ifn c3 hR
        refine lv_iload_n hx hb dX3_get_13 rfl (lv_at hl 2 rfl) ?_
        refine lv_iconst (v := 5) hx hb dX3_get_14 (by decide) ?_
        refine lv_icmp_lt (tgt := 20) hx hb dX3_get_15 (by decide) (fun c4 => ?_) (fun c4 => ?_)
        · replace hR := ifp c4 hR
          refine lv_aload_n hx hb dX3_get_20 rfl (lv_at hl 0 rfl) ?_
          refine gf hX hB (cwG (i := i) hi) rfl in3 0 (by decide) wm_1_45 rfl rfl dX3_get_21 ?_
          refine lv_iload_n hx hb dX3_get_24 rfl (lv_at hl 1 rfl) ?_
          refine lv_iconst (v := 5) hx hb dX3_get_25 (by decide) ?_
          refine lv_imul hx hb dX3_get_26 ?_
          refine lv_iload_n hx hb dX3_get_27 rfl (lv_at hl 2 rfl) ?_
          refine lv_iadd hx hb dX3_get_28 ?_
          refine lald hX hB (cwC (i := i) hi) (ix20 (by first | assumption | exact i32_not_le.mpr (by assumption)) (by first | assumption | exact i32_not_le.mpr (by assumption)) (by first | assumption | exact i32_not_le.mpr (by assumption)) (by first | assumption | exact i32_not_le.mpr (by assumption))) dX3_get_29 ?_
          refine lv_topl (fun g5 eg5 => ?_)
          replace hR := nm_use eg5 hR
          rw [← hQ]
          exact end_l hX hB hA3 rfl (by obtain rfl := hR; exact ⟨rfl, rfl⟩) (Nat.le_of_ble_eq_true rfl) (Nat.le_of_ble_eq_true rfl) dX3_get_30
        · replace hR := ifn c4 hR
          refine lv_lconst (v := 0) hx hb dX3_get_18 (by decide) ?_
          rw [← hQ]
          exact end_l hX hB hA3 rfl (by obtain rfl := hR; exact ⟨rfl, rfl⟩) (Nat.le_of_ble_eq_true rfl) (Nat.le_of_ble_eq_true rfl) dX3_get_19
noncomputable def D_X3_set (r : Nat → Int32) (q : Nat → Int32) (f : Nat → Nat → Int64) (i : Nat) (p0 : Int32) (p1 : Int32) (x : Int64) : (Nat → Nat → Int64) := (if p0 < 0 then f else (if 4 ≤ p0 then f else (if p1 < 0 then f else (if 5 ≤ p1 then f else va_up f i (vp_updL (f i) ((p0 * 5) + p1).toNatClampNeg x)))))
theorem D_X3_set_s {r : Nat → Int32} {q : Nat → Int32} {f : Nat → Nat → Int64} {i : Nat} {p0 : Int32} {p1 : Int32} {x : Int64} : D_X3_set r q f i p0 p1 x = (if p0 < 0 then f else (if 4 ≤ p0 then f else (if p1 < 0 then f else (if 5 ≤ p1 then f else va_up f i (vp_updL (f i) ((p0 * 5) + p1).toNatClampNeg x))))) := rfl
set_option maxHeartbeats 4000000 in
set_option maxRecDepth 100000 in
theorem k_X3_set (κ : Kt) (l : Launch) (a : Nat → Nat) (r q : Nat → Int32) (f : Nat → Nat → Int64) (i : Nat) (p0 : Int32) (p1 : Int32) (x : Int64) (hi : i < 15) (o_f : Nat → Nat → Int64) (hR : D_X3_set r q f i p0 p1 x = o_f) : CM κ l yX3_set cX3_set 5 (none) 0 0 0 0 [.ref (a (6 + 2 * i)), .int p0, .int p1, .long x] (cw κ a r q f) (fun o w' => o = none ∧ w' = cw κ a r q o_f) := by
  refine CM_begin (plainFor_of_name (by decide)) (Nat.le_of_ble_eq_true rfl) ?_
  intro p e s m args below meth c A Q hX hnm hA3 hQ hB ls hl
  have hx := hX.1.1
  have hb := hX.1.2.1
  have hl : lv_has ls 5 [(0, .ref (a (6 + 2 * i))), (1, .int p0), (2, .int p1), (3, .long x)] := hl
  replace hR := (D_X3_set_s).symm.trans hR
  refine lv_iload_n hx hb dX3_set_0 rfl (lv_at hl 1 rfl) ?_
  refine lv_if_lt (tgt := 29) hx hb dX3_set_1 (by decide) (fun c1 => ?_) (fun c1 => ?_)
  · replace hR := ifp c1 hR
    rw [← hQ]
    exact end_v hX hB hA3 rfl (by obtain rfl := hR; exact ⟨rfl, rfl⟩) (Nat.le_of_ble_eq_true rfl) (Nat.le_of_ble_eq_true rfl) dX3_set_29
  · replace hR := ifn c1 hR
    refine lv_iload_n hx hb dX3_set_4 rfl (lv_at hl 1 rfl) ?_
    refine lv_iconst (v := 4) hx hb dX3_set_5 (by decide) ?_
    refine lv_icmp_ge (tgt := 29) hx hb dX3_set_6 (by decide) (fun c2 => ?_) (fun c2 => ?_)
    · replace hR := ifp c2 hR
      rw [← hQ]
      exact end_v hX hB hA3 rfl (by obtain rfl := hR; exact ⟨rfl, rfl⟩) (Nat.le_of_ble_eq_true rfl) (Nat.le_of_ble_eq_true rfl) dX3_set_29
    · replace hR := ifn c2 hR
      refine lv_iload_n hx hb dX3_set_9 rfl (lv_at hl 2 rfl) ?_
      refine lv_if_lt (tgt := 29) hx hb dX3_set_10 (by decide) (fun c3 => ?_) (fun c3 => ?_)
      · replace hR := ifp c3 hR
        rw [← hQ]
        exact end_v hX hB hA3 rfl (by obtain rfl := hR; exact ⟨rfl, rfl⟩) (Nat.le_of_ble_eq_true rfl) (Nat.le_of_ble_eq_true rfl) dX3_set_29
      · replace hR := ifn c3 hR
        refine lv_iload_n hx hb dX3_set_13 rfl (lv_at hl 2 rfl) ?_
        refine lv_iconst (v := 5) hx hb dX3_set_14 (by decide) ?_
        refine lv_icmp_ge (tgt := 29) hx hb dX3_set_15 (by decide) (fun c4 => ?_) (fun c4 => ?_)
        · replace hR := ifp c4 hR
          rw [← hQ]
          exact end_v hX hB hA3 rfl (by obtain rfl := hR; exact ⟨rfl, rfl⟩) (Nat.le_of_ble_eq_true rfl) (Nat.le_of_ble_eq_true rfl) dX3_set_29
        · replace hR := ifn c4 hR
          refine lv_aload_n hx hb dX3_set_18 rfl (lv_at hl 0 rfl) ?_
          refine gf hX hB (cwG (i := i) hi) rfl in3 0 (by decide) wm_1_45 rfl rfl dX3_set_19 ?_
          refine lv_iload_n hx hb dX3_set_22 rfl (lv_at hl 1 rfl) ?_
          refine lv_iconst (v := 5) hx hb dX3_set_23 (by decide) ?_
          refine lv_imul hx hb dX3_set_24 ?_
          refine lv_iload_n hx hb dX3_set_25 rfl (lv_at hl 2 rfl) ?_
          refine lv_iadd hx hb dX3_set_26 ?_
          refine lv_lload_n hx hb dX3_set_27 rfl (lv_at hl 3 rfl) ?_
          refine last hX hB (cwC (i := i) hi) (ix20 (by first | assumption | exact i32_not_le.mpr (by assumption)) (by first | assumption | exact i32_not_le.mpr (by assumption)) (by first | assumption | exact i32_not_le.mpr (by assumption)) (by first | assumption | exact i32_not_le.mpr (by assumption))) (cwSL (i := i) hi _) dX3_set_28 (fun H locs hB => ?_)
          rw [← hQ]
          exact end_v hX hB hA3 rfl (by obtain rfl := hR; exact ⟨rfl, rfl⟩) (Nat.le_of_ble_eq_true rfl) (Nat.le_of_ble_eq_true rfl) dX3_set_29
noncomputable def D_X3_countLines (r : Nat → Int32) (q : Nat → Int32) (f : Nat → Nat → Int64) (i : Nat) (p0 : Int32) : Int32 := (if p0 = 0 then r (2 * i) else r (2 * i + 1))
theorem D_X3_countLines_s {r : Nat → Int32} {q : Nat → Int32} {f : Nat → Nat → Int64} {i : Nat} {p0 : Int32} : D_X3_countLines r q f i p0 = (if p0 = 0 then r (2 * i) else r (2 * i + 1)) := rfl
set_option maxHeartbeats 4000000 in
set_option maxRecDepth 100000 in
theorem k_X3_countLines (κ : Kt) (l : Launch) (a : Nat → Nat) (r q : Nat → Int32) (f : Nat → Nat → Int64) (i : Nat) (p0 : Int32) (hi : i < 15) (o_x : Int32) (hR : D_X3_countLines r q f i p0 = o_x) : CM κ l yX3_countLines cX3_countLines 2 (some .int) 0 0 0 0 [.ref (a (6 + 2 * i)), .int p0] (cw κ a r q f) (fun o w' => o = some (.int o_x) ∧ w' = cw κ a r q f) := by
  refine CM_begin (plainFor_of_name (by decide)) (Nat.le_of_ble_eq_true rfl) ?_
  intro p e s m args below meth c A Q hX hnm hA3 hQ hB ls hl
  have hx := hX.1.1
  have hb := hX.1.2.1
  have hl : lv_has ls 2 [(0, .ref (a (6 + 2 * i))), (1, .int p0)] := hl
  replace hR := (D_X3_countLines_s).symm.trans hR
  refine lv_iload_n hx hb dX3_countLines_0 rfl (lv_at hl 1 rfl) ?_
  refine lv_if_eq (tgt := 11) hx hb dX3_countLines_1 (by decide) (fun c1 => ?_) (fun c1 => ?_)
  · replace hR := ifp c1 hR
    refine lv_aload_n hx hb dX3_countLines_11 rfl (lv_at hl 0 rfl) ?_
    refine gf hX hB (cwG (i := i) hi) rfl in3 1 (by decide) wm_1_46 rfl rfl dX3_countLines_12 ?_
    rw [← hQ]
    exact end_i hX hB hA3 rfl rfl (by obtain rfl := hR; exact ⟨rfl, rfl⟩) (Nat.le_of_ble_eq_true rfl) (Nat.le_of_ble_eq_true rfl) dX3_countLines_15
  · replace hR := ifn c1 hR
    refine lv_aload_n hx hb dX3_countLines_4 rfl (lv_at hl 0 rfl) ?_
    refine gf hX hB (cwG (i := i) hi) rfl in3 2 (by decide) wm_1_52 rfl rfl dX3_countLines_5 ?_
    refine lv_goto (tgt := 15) hx hb dX3_countLines_8 (by decide) ?_
    rw [← hQ]
    exact end_i hX hB hA3 rfl rfl (by obtain rfl := hR; exact ⟨rfl, rfl⟩) (Nat.le_of_ble_eq_true rfl) (Nat.le_of_ble_eq_true rfl) dX3_countLines_15
noncomputable def D_X3_hasLine (r : Nat → Int32) (q : Nat → Int32) (f : Nat → Nat → Int64) (i : Nat) (p0 : Int32) (p1 : Int32) : Int32 := (if p1 < 0 then 0 else (if p0 = 0 then (if (r (2 * i)) ≤ p1 then 0 else 1) else (if (r (2 * i + 1)) ≤ p1 then 0 else 1)))
theorem D_X3_hasLine_s {r : Nat → Int32} {q : Nat → Int32} {f : Nat → Nat → Int64} {i : Nat} {p0 : Int32} {p1 : Int32} : D_X3_hasLine r q f i p0 p1 = (if p1 < 0 then 0 else (if p0 = 0 then (if (r (2 * i)) ≤ p1 then 0 else 1) else (if (r (2 * i + 1)) ≤ p1 then 0 else 1))) := rfl
set_option maxHeartbeats 4000000 in
set_option maxRecDepth 100000 in
theorem k_X3_hasLine (κ : Kt) (l : Launch) (a : Nat → Nat) (r q : Nat → Int32) (f : Nat → Nat → Int64) (i : Nat) (p0 : Int32) (p1 : Int32) (hi : i < 15) (o_x : Int32) (hR : D_X3_hasLine r q f i p0 p1 = o_x) : CM κ l yX3_hasLine cX3_hasLine 3 (some .boolean) 0 0 0 0 [.ref (a (6 + 2 * i)), .int p0, .int p1] (cw κ a r q f) (fun o w' => o = some (.int o_x) ∧ (o_x = 0 ∨ o_x = 1) ∧ w' = cw κ a r q f) := by
  refine CM_begin (plainFor_of_name (by decide)) (Nat.le_of_ble_eq_true rfl) ?_
  intro p e s m args below meth c A Q hX hnm hA3 hQ hB ls hl
  have hx := hX.1.1
  have hb := hX.1.2.1
  have hl : lv_has ls 3 [(0, .ref (a (6 + 2 * i))), (1, .int p0), (2, .int p1)] := hl
  replace hR := (D_X3_hasLine_s).symm.trans hR
  refine lv_iload_n hx hb dX3_hasLine_0 rfl (lv_at hl 2 rfl) ?_
  refine lv_if_lt (tgt := 27) hx hb dX3_hasLine_1 (by decide) (fun c1 => ?_) (fun c1 => ?_)
  · replace hR := ifp c1 hR
    refine lv_iconst (v := 0) hx hb dX3_hasLine_27 (by decide) ?_
    rw [← hQ]
    exact end_i hX hB hA3 rfl rfl (by obtain rfl := hR; exact ⟨rfl, Or.inl rfl, rfl⟩) (Nat.le_of_ble_eq_true rfl) (Nat.le_of_ble_eq_true rfl) dX3_hasLine_28
  · replace hR := ifn c1 hR
    refine lv_iload_n hx hb dX3_hasLine_4 rfl (lv_at hl 2 rfl) ?_
    refine lv_iload_n hx hb dX3_hasLine_5 rfl (lv_at hl 1 rfl) ?_
    refine lv_if_eq (tgt := 16) hx hb dX3_hasLine_6 (by decide) (fun c2 => ?_) (fun c2 => ?_)
    · replace hR := ifp c2 hR
      refine lv_aload_n hx hb dX3_hasLine_16 rfl (lv_at hl 0 rfl) ?_
      refine gf hX hB (cwG (i := i) hi) rfl in3 1 (by decide) wm_1_46 rfl rfl dX3_hasLine_17 ?_
      refine lv_icmp_ge (tgt := 27) hx hb dX3_hasLine_20 (by decide) (fun c3 => ?_) (fun c3 => ?_)
      · replace hR := ifp c3 hR
        refine lv_iconst (v := 0) hx hb dX3_hasLine_27 (by decide) ?_
        rw [← hQ]
        exact end_i hX hB hA3 rfl rfl (by obtain rfl := hR; exact ⟨rfl, Or.inl rfl, rfl⟩) (Nat.le_of_ble_eq_true rfl) (Nat.le_of_ble_eq_true rfl) dX3_hasLine_28
      · replace hR := ifn c3 hR
        refine lv_iconst (v := 1) hx hb dX3_hasLine_23 (by decide) ?_
        refine lv_goto (tgt := 28) hx hb dX3_hasLine_24 (by decide) ?_
        rw [← hQ]
        exact end_i hX hB hA3 rfl rfl (by obtain rfl := hR; exact ⟨rfl, Or.inr rfl, rfl⟩) (Nat.le_of_ble_eq_true rfl) (Nat.le_of_ble_eq_true rfl) dX3_hasLine_28
    · replace hR := ifn c2 hR
      refine lv_aload_n hx hb dX3_hasLine_9 rfl (lv_at hl 0 rfl) ?_
      refine gf hX hB (cwG (i := i) hi) rfl in3 2 (by decide) wm_1_52 rfl rfl dX3_hasLine_10 ?_
      refine lv_goto (tgt := 20) hx hb dX3_hasLine_13 (by decide) ?_
      refine lv_icmp_ge (tgt := 27) hx hb dX3_hasLine_20 (by decide) (fun c4 => ?_) (fun c4 => ?_)
      · replace hR := ifp c4 hR
        refine lv_iconst (v := 0) hx hb dX3_hasLine_27 (by decide) ?_
        rw [← hQ]
        exact end_i hX hB hA3 rfl rfl (by obtain rfl := hR; exact ⟨rfl, Or.inl rfl, rfl⟩) (Nat.le_of_ble_eq_true rfl) (Nat.le_of_ble_eq_true rfl) dX3_hasLine_28
      · replace hR := ifn c4 hR
        refine lv_iconst (v := 1) hx hb dX3_hasLine_23 (by decide) ?_
        refine lv_goto (tgt := 28) hx hb dX3_hasLine_24 (by decide) ?_
        rw [← hQ]
        exact end_i hX hB hA3 rfl rfl (by obtain rfl := hR; exact ⟨rfl, Or.inr rfl, rfl⟩) (Nat.le_of_ble_eq_true rfl) (Nat.le_of_ble_eq_true rfl) dX3_hasLine_28
noncomputable def D_X3_countFilled_14 (r : Nat → Int32) (q : Nat → Int32) (f : Nat → Nat → Int64) (i : Nat) (lb4 : Int32 → Int32 → Int32) (y2_4 : Int32) (nn : Nat) : Int32 → Int32 → Int32 := @Nat.rec (fun _ => Int32 → Int32 → Int32) (fun _ _ => default) (fun _ lb14 (y3_14 : Int32) (y1_14 : Int32) => (if (r (2 * i + 1)) ≤ y3_14 then (lb4 (y2_4 + 1) y1_14) else bnd1 (D_X3_get r q f i y2_4 y3_14) (fun (x38 : Int64) => (if (lg_cmp x38 0) = 0 then (lb14 (y3_14 + 1) y1_14) else (lb14 (y3_14 + 1) (y1_14 + 1)))))) nn
theorem D_X3_countFilled_14_s {r : Nat → Int32} {q : Nat → Int32} {f : Nat → Nat → Int64} {i : Nat} {lb4 : Int32 → Int32 → Int32} {y2_4 : Int32} {nn : Nat} {y3_14 : Int32} {y1_14 : Int32} : D_X3_countFilled_14 r q f i lb4 y2_4 (nn + 1) y3_14 y1_14 = (if (r (2 * i + 1)) ≤ y3_14 then (lb4 (y2_4 + 1) y1_14) else bnd1 (D_X3_get r q f i y2_4 y3_14) (fun (x38 : Int64) => (if (lg_cmp x38 0) = 0 then ((D_X3_countFilled_14 r q f i lb4 y2_4 nn) (y3_14 + 1) y1_14) else ((D_X3_countFilled_14 r q f i lb4 y2_4 nn) (y3_14 + 1) (y1_14 + 1))))) := rfl
noncomputable def D_X3_countFilled_4 (r : Nat → Int32) (q : Nat → Int32) (f : Nat → Nat → Int64) (i : Nat) (nn : Nat) : Int32 → Int32 → Int32 := @Nat.rec (fun _ => Int32 → Int32 → Int32) (fun _ _ => default) (fun _ lb4 (y2_4 : Int32) (y1_4 : Int32) => (if (r (2 * i)) ≤ y2_4 then y1_4 else (D_X3_countFilled_14 r q f i lb4 y2_4 (gap (r (2 * i + 1)) 0 + 1) 0 y1_4))) nn
theorem D_X3_countFilled_4_s {r : Nat → Int32} {q : Nat → Int32} {f : Nat → Nat → Int64} {i : Nat} {nn : Nat} {y2_4 : Int32} {y1_4 : Int32} : D_X3_countFilled_4 r q f i (nn + 1) y2_4 y1_4 = (if (r (2 * i)) ≤ y2_4 then y1_4 else (D_X3_countFilled_14 r q f i (D_X3_countFilled_4 r q f i nn) y2_4 (gap (r (2 * i + 1)) 0 + 1) 0 y1_4)) := rfl
noncomputable def D_X3_countFilled (r : Nat → Int32) (q : Nat → Int32) (f : Nat → Nat → Int64) (i : Nat) : Int32 := (D_X3_countFilled_4 r q f i (gap (r (2 * i)) 0 + 1) 0 0)
theorem D_X3_countFilled_s {r : Nat → Int32} {q : Nat → Int32} {f : Nat → Nat → Int64} {i : Nat} : D_X3_countFilled r q f i = (D_X3_countFilled_4 r q f i (gap (r (2 * i)) 0 + 1) 0 0) := rfl
set_option maxHeartbeats 4000000 in
set_option maxRecDepth 100000 in
theorem k_X3_countFilled (κ : Kt) (l : Launch) (a : Nat → Nat) (r q : Nat → Int32) (f : Nat → Nat → Int64) (i : Nat) (hi : i < 15) (o_x : Int32) (hR : D_X3_countFilled r q f i = o_x) : CM κ l yX3_countFilled cX3_countFilled 4 (some .int) 1 22 0 0 [.ref (a (6 + 2 * i))] (cw κ a r q f) (fun o w' => o = some (.int o_x) ∧ w' = cw κ a r q f) := by
  refine CM_begin (plainFor_of_name (by decide)) (Nat.le_of_ble_eq_true rfl) ?_
  intro p e s m args below meth c A Q hX hnm hA3 hQ hB ls hl
  have hx := hX.1.1
  have hb := hX.1.2.1
  have hl : lv_has ls 4 [(0, .ref (a (6 + 2 * i)))] := hl
  replace hR := (D_X3_countFilled_s).symm.trans hR
  refine lv_iconst (v := 0) hx hb dX3_countFilled_0 (by decide) ?_
  refine lv_istore_n (lv' := [(1, .int 0), (0, .ref (a (6 + 2 * i)))]) hx hb dX3_countFilled_1 rfl hl (by decide) rfl (fun ls hl => ?_)
  refine lv_iconst (v := 0) hx hb dX3_countFilled_2 (by decide) ?_
  refine lv_istore_n (lv' := [(2, .int 0), (1, .int 0), (0, .ref (a (6 + 2 * i)))]) hx hb dX3_countFilled_3 rfl hl (by decide) rfl (fun ls hl => ?_)
  have lp4 : ∀ (nn4 : Nat) (y2_4 : Int32) (y1_4 : Int32) (H : Heap) (locs : List Loc), gap (r (2 * i)) y2_4 < nn4 → D_X3_countFilled_4 r q f i nn4 y2_4 y1_4 = o_x → Bd κ A s (cw κ a r q f) H locs → ∀ ls : Array Slot, lv_has ls 4 [(2, .int y2_4), (1, .int y1_4), (0, .ref (a (6 + 2 * i)))] → W p l e (Rm 1 22 0 0) s m args below meth c H locs 0 0 Q (F0 m 4 ls []) := by
    intro nn4
    induction nn4 with
    | zero => intro y2_4 y1_4 H locs hμ; exact absurd hμ (Nat.not_lt_zero _)
    | succ nn4 ih4 =>
      intro y2_4 y1_4 H locs hμ4 hR hB ls hl
      replace hR := (D_X3_countFilled_4_s).symm.trans hR
      refine lv_iload_n hx hb dX3_countFilled_4 rfl (lv_at hl 0 rfl) ?_
      refine lv_aload_n hx hb dX3_countFilled_5 rfl (lv_at hl 2 rfl) ?_
      refine gf hX hB (cwG (i := i) hi) rfl in3 1 (by decide) wm_1_46 rfl rfl dX3_countFilled_6 ?_
      refine lv_icmp_ge (tgt := 48) hx hb dX3_countFilled_9 (by decide) (fun c27 => ?_) (fun c27 => ?_)
      · replace hR := ifp c27 hR
        refine lv_iload_n hx hb dX3_countFilled_48 rfl (lv_at hl 1 rfl) ?_
        rw [← hQ]
        exact end_i hX hB hA3 rfl rfl (by obtain rfl := hR; exact ⟨rfl, rfl⟩) (Nat.le_of_ble_eq_true rfl) (Nat.le_of_ble_eq_true rfl) dX3_countFilled_49
      · replace hR := ifn c27 hR
        refine lv_iconst (v := 0) hx hb dX3_countFilled_12 (by decide) ?_
        refine lv_istore_n (lv' := [(3, .int 0), (2, .int y2_4), (1, .int y1_4), (0, .ref (a (6 + 2 * i)))]) hx hb dX3_countFilled_13 rfl hl (by decide) rfl (fun ls hl => ?_)
        have lp14 : ∀ (nn14 : Nat) (y3_14 : Int32) (y1_14 : Int32) (H : Heap) (locs : List Loc), gap (r (2 * i + 1)) y3_14 < nn14 → D_X3_countFilled_14 r q f i (D_X3_countFilled_4 r q f i nn4) y2_4 nn14 y3_14 y1_14 = o_x → Bd κ A s (cw κ a r q f) H locs → ∀ ls : Array Slot, lv_has ls 4 [(3, .int y3_14), (2, .int y2_4), (1, .int y1_14), (0, .ref (a (6 + 2 * i)))] → W p l e (Rm 1 22 0 0) s m args below meth c H locs 0 0 Q (F0 m 14 ls []) := by
          intro nn14
          induction nn14 with
          | zero => intro y3_14 y1_14 H locs hμ; exact absurd hμ (Nat.not_lt_zero _)
          | succ nn14 ih14 =>
            intro y3_14 y1_14 H locs hμ14 hR hB ls hl
            replace hR := (D_X3_countFilled_14_s).symm.trans hR
            refine lv_iload_n hx hb dX3_countFilled_14 rfl (lv_at hl 0 rfl) ?_
            refine lv_aload_n hx hb dX3_countFilled_15 rfl (lv_at hl 3 rfl) ?_
            refine gf hX hB (cwG (i := i) hi) rfl in3 2 (by decide) wm_1_52 rfl rfl dX3_countFilled_16 ?_
            refine lv_icmp_ge (tgt := 42) hx hb dX3_countFilled_19 (by decide) (fun c36 => ?_) (fun c36 => ?_)
            · replace hR := ifp c36 hR
              refine lv_iinc (v := y2_4 + 1) (lv' := [(2, .int (y2_4 + 1)), (3, .int y3_14), (1, .int y1_14), (0, .ref (a (6 + 2 * i)))]) hx hb dX3_countFilled_42 hl (k := 1) rfl rfl (by decide) rfl (fun ls hl => ?_)
              refine lv_goto (tgt := 4) hx hb dX3_countFilled_45 (by decide) ?_
              exact ih4 (y2_4 + 1) y1_14 _ _  (gap_step c27 hμ4) hR hB _ (lv_sub hl [0, 2, 3] rfl)
            · replace hR := ifn c36 hR
              refine lv_aload_n hx hb dX3_countFilled_22 rfl (lv_at hl 3 rfl) ?_
              refine lv_iload_n hx hb dX3_countFilled_23 rfl (lv_at hl 1 rfl) ?_
              refine lv_iload_n hx hb dX3_countFilled_24 rfl (lv_at hl 0 rfl) ?_
              obtain ⟨x38, hd37⟩ := ex1 (D_X3_get r q f i y2_4 y3_14)
              replace hR := bnd1_use hd37 hR
              refine call_V (n := 2) (As := [.int y2_4, .int y3_14]) (rest := []) hX hB (k_X3_get κ l a r q f i y2_4 y3_14 hi x38 hd37) ⟨rfl, by decide, by decide, by decide +kernel⟩ wm_2_7 wm_1_187 wm_1_188 wm_1_2 wm_1_189 ⟨Nat.le_of_ble_eq_true rfl, Nat.le_of_ble_eq_true rfl⟩ ⟨Nat.le_of_ble_eq_true rfl, Nat.le_of_ble_eq_true rfl⟩ (cwG (i := i) hi) rfl rfl rfl hl.1 rfl (Nat.le_of_ble_eq_true rfl) dX3_countFilled_25 (fun o w' H locs hp hB => ?_)
              obtain ⟨rfl, rfl⟩ := hp
              refine W.eq (g2 := F0 m 28 ls [.long x38]) rfl ?_
              refine lv_lconst (v := 0) hx hb dX3_countFilled_28 (by decide) ?_
              refine W.lcmp hx hb dX3_countFilled_29 ?_
              refine lv_if_eq (tgt := 36) hx hb dX3_countFilled_30 (by decide) (fun c39 => ?_) (fun c39 => ?_)
              · replace hR := ifp c39 hR
                refine lv_iinc (v := y3_14 + 1) (lv' := [(3, .int (y3_14 + 1)), (2, .int y2_4), (1, .int y1_14), (0, .ref (a (6 + 2 * i)))]) hx hb dX3_countFilled_36 hl (k := 0) rfl rfl (by decide) rfl (fun ls hl => ?_)
                refine lv_goto (tgt := 14) hx hb dX3_countFilled_39 (by decide) ?_
                exact ih14 (y3_14 + 1) y1_14 _ _  (gap_step c36 hμ14) hR hB _ hl
              · replace hR := ifn c39 hR
                refine lv_iinc (v := y1_14 + 1) (lv' := [(1, .int (y1_14 + 1)), (3, .int y3_14), (2, .int y2_4), (0, .ref (a (6 + 2 * i)))]) hx hb dX3_countFilled_33 hl (k := 2) rfl rfl (by decide) rfl (fun ls hl => ?_)
                refine lv_iinc (v := y3_14 + 1) (lv' := [(3, .int (y3_14 + 1)), (1, .int (y1_14 + 1)), (2, .int y2_4), (0, .ref (a (6 + 2 * i)))]) hx hb dX3_countFilled_36 hl (k := 1) rfl rfl (by decide) rfl (fun ls hl => ?_)
                refine lv_goto (tgt := 14) hx hb dX3_countFilled_39 (by decide) ?_
                exact ih14 (y3_14 + 1) (y1_14 + 1) _ _  (gap_step c36 hμ14) hR hB _ (lv_sub hl [0, 2, 1, 3] rfl)
        exact lp14 _ 0 y1_4 _ _  (Nat.lt_succ_self _) hR hB _ hl
  exact lp4 _ 0 0 _ _  (Nat.lt_succ_self _) hR hB _ hl
noncomputable def D_X3_reshape_28 (r : Nat → Int32) (q : Nat → Int32) (i : Nat) (t2 : Int32) (t4 : Int32) (nn : Nat) : Int32 → (Nat → Nat → Int64) → (Nat → Int32) × (Nat → Int32) × (Nat → Nat → Int64) := @Nat.rec (fun _ => Int32 → (Nat → Nat → Int64) → (Nat → Int32) × (Nat → Int32) × (Nat → Nat → Int64)) (fun _ _ => default) (fun _ lb28 (y3_28 : Int32) (f_28 : Nat → Nat → Int64) => (if 20 ≤ y3_28 then (va_up (va_up r (2 * i) t2) (2 * i + 1) t4, q, f_28) else (lb28 (y3_28 + 1) (va_up f_28 i (vp_updL (f_28 i) (y3_28).toNatClampNeg 0))))) nn
theorem D_X3_reshape_28_s {r : Nat → Int32} {q : Nat → Int32} {i : Nat} {t2 : Int32} {t4 : Int32} {nn : Nat} {y3_28 : Int32} {f_28 : Nat → Nat → Int64} : D_X3_reshape_28 r q i t2 t4 (nn + 1) y3_28 f_28 = (if 20 ≤ y3_28 then (va_up (va_up r (2 * i) t2) (2 * i + 1) t4, q, f_28) else ((D_X3_reshape_28 r q i t2 t4 nn) (y3_28 + 1) (va_up f_28 i (vp_updL (f_28 i) (y3_28).toNatClampNeg 0)))) := rfl
noncomputable def D_X3_reshape (r : Nat → Int32) (q : Nat → Int32) (f : Nat → Nat → Int64) (i : Nat) (p0 : Int32) (p1 : Int32) : (Nat → Int32) × (Nat → Int32) × (Nat → Nat → Int64) := nm ((if 4 < p0 then 4 else p0) : Int32) (fun (t1 : Int32) => nm ((if 1 < t1 then t1 else 1) : Int32) (fun (t2 : Int32) => nm ((if 5 < p1 then 5 else p1) : Int32) (fun (t3 : Int32) => nm ((if 1 < t3 then t3 else 1) : Int32) (fun (t4 : Int32) => (D_X3_reshape_28 r q i t2 t4 (gap 20 0 + 1) 0 f)))))
theorem D_X3_reshape_s {r : Nat → Int32} {q : Nat → Int32} {f : Nat → Nat → Int64} {i : Nat} {p0 : Int32} {p1 : Int32} : D_X3_reshape r q f i p0 p1 = nm ((if 4 < p0 then 4 else p0) : Int32) (fun (t1 : Int32) => nm ((if 1 < t1 then t1 else 1) : Int32) (fun (t2 : Int32) => nm ((if 5 < p1 then 5 else p1) : Int32) (fun (t3 : Int32) => nm ((if 1 < t3 then t3 else 1) : Int32) (fun (t4 : Int32) => (D_X3_reshape_28 r q i t2 t4 (gap 20 0 + 1) 0 f))))) := rfl
set_option maxHeartbeats 4000000 in
set_option maxRecDepth 100000 in
theorem k_X3_reshape (κ : Kt) (l : Launch) (a : Nat → Nat) (r q : Nat → Int32) (f : Nat → Nat → Int64) (i : Nat) (p0 : Int32) (p1 : Int32) (hi : i < 15) (o_r : Nat → Int32) (o_q : Nat → Int32) (o_f : Nat → Nat → Int64) (hR : D_X3_reshape r q f i p0 p1 = (o_r, o_q, o_f)) : CM κ l yX3_reshape cX3_reshape 4 (none) 1 21 0 0 [.ref (a (6 + 2 * i)), .int p0, .int p1] (cw κ a r q f) (fun o w' => o = none ∧ (okr r → okr o_r) ∧ o_q 4 = q 4 ∧ w' = cw κ a o_r o_q o_f) := by
  refine CM_begin (plainFor_of_name (by decide)) (Nat.le_of_ble_eq_true rfl) ?_
  intro p e s m args below meth c A Q hX hnm hA3 hQ hB ls hl
  have hx := hX.1.1
  have hb := hX.1.2.1
  have hl : lv_has ls 4 [(0, .ref (a (6 + 2 * i))), (1, .int p0), (2, .int p1)] := hl
  replace hR := (D_X3_reshape_s).symm.trans hR
  refine lv_aload_n hx hb dX3_reshape_0 rfl (lv_at hl 0 rfl) ?_
  refine lv_iconst (v := 1) hx hb dX3_reshape_1 (by decide) ?_
  refine lv_iload_n hx hb dX3_reshape_2 rfl (lv_at hl 1 rfl) ?_
  refine lv_iconst (v := 4) hx hb dX3_reshape_3 (by decide) ?_
  refine va_mmin hx hb (by rw [hX.1.2.2.1]; exact hl.1.symm) hX.1.2.2.2.1 (hX.1.2.2.2.2 _ wm_1_216) (hX.1.2.2.2.2 _ wm_1_217) (hX.1.2.2.2.2 _ wm_1_14) (hX.1.2.2.2.2 _ wm_1_218) (Nat.le_of_ble_eq_true rfl) (Nat.le_of_ble_eq_true rfl) (Nat.le_of_ble_eq_true rfl) (Nat.le_of_ble_eq_true rfl) dX3_reshape_4 ?_
  refine lv_topi (fun t1 et1 => ?_)
  replace hR := nm_use et1 hR
  refine va_mmax hx hb (by rw [hX.1.2.2.1]; exact hl.1.symm) hX.1.2.2.2.1 (hX.1.2.2.2.2 _ wm_1_219) (hX.1.2.2.2.2 _ wm_1_220) (hX.1.2.2.2.2 _ wm_1_14) (hX.1.2.2.2.2 _ wm_1_221) (Nat.le_of_ble_eq_true rfl) (Nat.le_of_ble_eq_true rfl) (Nat.le_of_ble_eq_true rfl) (Nat.le_of_ble_eq_true rfl) dX3_reshape_7 ?_
  refine lv_topi (fun t2 et2 => ?_)
  replace hR := nm_use et2 hR
  refine pf (ty := .int) hX hB (cwG (i := i) hi) rfl in3 tyX3_ok nmX3 1 (by decide) wm_1_46 rfl rfl rfl rfl rfl (Nat.le_of_ble_eq_true rfl) (cwSR (i := i) hi _) dX3_reshape_10 (fun H locs hB => ?_)
  refine lv_aload_n hx hb dX3_reshape_13 rfl (lv_at hl 0 rfl) ?_
  refine lv_iconst (v := 1) hx hb dX3_reshape_14 (by decide) ?_
  refine lv_iload_n hx hb dX3_reshape_15 rfl (lv_at hl 2 rfl) ?_
  refine lv_iconst (v := 5) hx hb dX3_reshape_16 (by decide) ?_
  refine va_mmin hx hb (by rw [hX.1.2.2.1]; exact hl.1.symm) hX.1.2.2.2.1 (hX.1.2.2.2.2 _ wm_1_216) (hX.1.2.2.2.2 _ wm_1_217) (hX.1.2.2.2.2 _ wm_1_14) (hX.1.2.2.2.2 _ wm_1_218) (Nat.le_of_ble_eq_true rfl) (Nat.le_of_ble_eq_true rfl) (Nat.le_of_ble_eq_true rfl) (Nat.le_of_ble_eq_true rfl) dX3_reshape_17 ?_
  refine lv_topi (fun t3 et3 => ?_)
  replace hR := nm_use et3 hR
  refine va_mmax hx hb (by rw [hX.1.2.2.1]; exact hl.1.symm) hX.1.2.2.2.1 (hX.1.2.2.2.2 _ wm_1_219) (hX.1.2.2.2.2 _ wm_1_220) (hX.1.2.2.2.2 _ wm_1_14) (hX.1.2.2.2.2 _ wm_1_221) (Nat.le_of_ble_eq_true rfl) (Nat.le_of_ble_eq_true rfl) (Nat.le_of_ble_eq_true rfl) (Nat.le_of_ble_eq_true rfl) dX3_reshape_20 ?_
  refine lv_topi (fun t4 et4 => ?_)
  replace hR := nm_use et4 hR
  refine pf (ty := .int) hX hB (cwG (i := i) hi) rfl in3 tyX3_ok nmX3 2 (by decide) wm_1_52 rfl rfl rfl rfl rfl (Nat.le_of_ble_eq_true rfl) (cwSC (i := i) hi _) dX3_reshape_23 (fun H locs hB => ?_)
  refine lv_iconst (v := 0) hx hb dX3_reshape_26 (by decide) ?_
  refine lv_istore_n (lv' := [(3, .int 0), (0, .ref (a (6 + 2 * i))), (1, .int p0), (2, .int p1)]) hx hb dX3_reshape_27 rfl hl (by decide) rfl (fun ls hl => ?_)
  have lp28 : ∀ (nn28 : Nat) (y3_28 : Int32) (f_28 : Nat → Nat → Int64) (H : Heap) (locs : List Loc), 0 ≤ y3_28 → gap 20 y3_28 < nn28 → D_X3_reshape_28 r q i t2 t4 nn28 y3_28 f_28 = (o_r, o_q, o_f) → Bd κ A s (cw κ a (va_up (va_up r (2 * i) t2) (2 * i + 1) t4) q f_28) H locs → ∀ ls : Array Slot, lv_has ls 4 [(3, .int y3_28), (0, .ref (a (6 + 2 * i))), (1, .int p0), (2, .int p1)] → W p l e (Rm 1 21 0 0) s m args below meth c H locs 0 0 Q (F0 m 28 ls []) := by
    intro nn28
    induction nn28 with
    | zero => intro y3_28 f_28 H locs hn3_28 hμ; exact absurd hμ (Nat.not_lt_zero _)
    | succ nn28 ih28 =>
      intro y3_28 f_28 H locs hn3_28 hμ28 hR hB ls hl
      replace hR := (D_X3_reshape_28_s).symm.trans hR
      refine lv_iload_n hx hb dX3_reshape_28 rfl (lv_at hl 0 rfl) ?_
      refine lv_aload_n hx hb dX3_reshape_29 rfl (lv_at hl 1 rfl) ?_
      refine gf hX hB (cwG (i := i) hi) rfl in3 0 (by decide) wm_1_45 rfl rfl dX3_reshape_30 ?_
      refine alenL (v := 20) hX hB (cwC (i := i) hi) rfl dX3_reshape_33 ?_
      refine lv_icmp_ge (tgt := 50) hx hb dX3_reshape_34 (by decide) (fun c7 => ?_) (fun c7 => ?_)
      · replace hR := ifp c7 hR
        rw [← hQ]
        exact end_v hX hB hA3 rfl (by obtain ⟨rfl, rfl, rfl⟩ := pr3 hR; exact ⟨rfl, (fun h => okr_set (clampI (by decide) et1 et2) (clampI (by decide) et3 et4) h), rfl, rfl⟩) (Nat.le_of_ble_eq_true rfl) (Nat.le_of_ble_eq_true rfl) dX3_reshape_50
      · replace hR := ifn c7 hR
        refine lv_aload_n hx hb dX3_reshape_37 rfl (lv_at hl 1 rfl) ?_
        refine gf hX hB (cwG (i := i) hi) rfl in3 0 (by decide) wm_1_45 rfl rfl dX3_reshape_38 ?_
        refine lv_iload_n hx hb dX3_reshape_41 rfl (lv_at hl 0 rfl) ?_
        refine lv_lconst (v := 0) hx hb dX3_reshape_42 (by decide) ?_
        refine last hX hB (cwC (i := i) hi) (in_of (N := 20) rfl hn3_28 c7) (cwSL (i := i) hi _) dX3_reshape_43 (fun H locs hB => ?_)
        refine lv_iinc (v := y3_28 + 1) (lv' := [(3, .int (y3_28 + 1)), (0, .ref (a (6 + 2 * i))), (1, .int p0), (2, .int p1)]) hx hb dX3_reshape_44 hl (k := 0) rfl rfl (by decide) rfl (fun ls hl => ?_)
        refine lv_goto (tgt := 28) hx hb dX3_reshape_47 (by decide) ?_
        exact ih28 (y3_28 + 1) (va_up f_28 i (vp_updL (f_28 i) (y3_28).toNatClampNeg 0)) _ _ (nn_step hn3_28 c7) (gap_step c7 hμ28) hR hB _ hl
  exact lp28 _ 0 f _ _ (by decide) (Nat.lt_succ_self _) hR hB _ hl
noncomputable def D_X3_becomeUnit_8 (i : Nat) (r2 : Nat → Int32) (q4 : Nat → Int32) (nn : Nat) : Int32 → (Nat → Nat → Int64) → (Nat → Int32) × (Nat → Int32) × (Nat → Nat → Int64) := @Nat.rec (fun _ => Int32 → (Nat → Nat → Int64) → (Nat → Int32) × (Nat → Int32) × (Nat → Nat → Int64)) (fun _ _ => default) (fun _ lb8 (y2_8 : Int32) (f_8 : Nat → Nat → Int64) => (if (r2 (2 * i)) ≤ y2_8 then (r2, q4, f_8) else bnd1 (D_X3_set r2 q4 f_8 i y2_8 y2_8 1) (fun (f15 : Nat → Nat → Int64) => (lb8 (y2_8 + 1) f15)))) nn
theorem D_X3_becomeUnit_8_s {i : Nat} {r2 : Nat → Int32} {q4 : Nat → Int32} {nn : Nat} {y2_8 : Int32} {f_8 : Nat → Nat → Int64} : D_X3_becomeUnit_8 i r2 q4 (nn + 1) y2_8 f_8 = (if (r2 (2 * i)) ≤ y2_8 then (r2, q4, f_8) else bnd1 (D_X3_set r2 q4 f_8 i y2_8 y2_8 1) (fun (f15 : Nat → Nat → Int64) => ((D_X3_becomeUnit_8 i r2 q4 nn) (y2_8 + 1) f15))) := rfl
noncomputable def D_X3_becomeUnit (r : Nat → Int32) (q : Nat → Int32) (f : Nat → Nat → Int64) (i : Nat) (p0 : Int32) : (Nat → Int32) × (Nat → Int32) × (Nat → Nat → Int64) := bnd3 (D_X3_reshape r q f i p0 p0) (fun (r2 : Nat → Int32) (q4 : Nat → Int32) (f6 : Nat → Nat → Int64) => (D_X3_becomeUnit_8 i r2 q4 (gap (r2 (2 * i)) 0 + 1) 0 f6))
theorem D_X3_becomeUnit_s {r : Nat → Int32} {q : Nat → Int32} {f : Nat → Nat → Int64} {i : Nat} {p0 : Int32} : D_X3_becomeUnit r q f i p0 = bnd3 (D_X3_reshape r q f i p0 p0) (fun (r2 : Nat → Int32) (q4 : Nat → Int32) (f6 : Nat → Nat → Int64) => (D_X3_becomeUnit_8 i r2 q4 (gap (r2 (2 * i)) 0 + 1) 0 f6)) := rfl
set_option maxHeartbeats 4000000 in
set_option maxRecDepth 100000 in
theorem k_X3_becomeUnit (κ : Kt) (l : Launch) (a : Nat → Nat) (r q : Nat → Int32) (f : Nat → Nat → Int64) (i : Nat) (p0 : Int32) (hi : i < 15) (o_r : Nat → Int32) (o_q : Nat → Int32) (o_f : Nat → Nat → Int64) (hR : D_X3_becomeUnit r q f i p0 = (o_r, o_q, o_f)) : CM κ l yX3_becomeUnit cX3_becomeUnit 3 (none) 2 44 0 0 [.ref (a (6 + 2 * i)), .int p0] (cw κ a r q f) (fun o w' => o = none ∧ (okr r → okr o_r) ∧ o_q 4 = q 4 ∧ w' = cw κ a o_r o_q o_f) := by
  refine CM_begin (plainFor_of_name (by decide)) (Nat.le_of_ble_eq_true rfl) ?_
  intro p e s m args below meth c A Q hX hnm hA3 hQ hB ls hl
  have hx := hX.1.1
  have hb := hX.1.2.1
  have hl : lv_has ls 3 [(0, .ref (a (6 + 2 * i))), (1, .int p0)] := hl
  replace hR := (D_X3_becomeUnit_s).symm.trans hR
  refine lv_aload_n hx hb dX3_becomeUnit_0 rfl (lv_at hl 0 rfl) ?_
  refine lv_iload_n hx hb dX3_becomeUnit_1 rfl (lv_at hl 1 rfl) ?_
  refine lv_iload_n hx hb dX3_becomeUnit_2 rfl (lv_at hl 1 rfl) ?_
  obtain ⟨r2, q4, f6, hd1⟩ := ex3 (D_X3_reshape r q f i p0 p0)
  replace hR := bnd3_use hd1 hR
  refine call_V (n := 2) (As := [.int p0, .int p0]) (rest := []) hX hB (k_X3_reshape κ l a r q f i p0 p0 hi r2 q4 f6 hd1) ⟨rfl, by decide, by decide, by decide +kernel⟩ wm_1_212 wm_1_213 wm_1_214 wm_1_2 wm_1_215 ⟨Nat.le_of_ble_eq_true rfl, Nat.le_of_ble_eq_true rfl⟩ ⟨Nat.le_of_ble_eq_true rfl, Nat.le_of_ble_eq_true rfl⟩ (cwG (i := i) hi) rfl rfl rfl hl.1 rfl (Nat.le_of_ble_eq_true rfl) dX3_becomeUnit_3 (fun o w' H locs hp hB => ?_)
  obtain ⟨rfl, ho3, hq5, rfl⟩ := hp
  refine W.eq (g2 := F0 m 6 ls []) rfl ?_
  refine lv_iconst (v := 0) hx hb dX3_becomeUnit_6 (by decide) ?_
  refine lv_istore_n (lv' := [(2, .int 0), (0, .ref (a (6 + 2 * i))), (1, .int p0)]) hx hb dX3_becomeUnit_7 rfl hl (by decide) rfl (fun ls hl => ?_)
  have lp8 : ∀ (nn8 : Nat) (y2_8 : Int32) (f_8 : Nat → Nat → Int64) (H : Heap) (locs : List Loc), gap (r2 (2 * i)) y2_8 < nn8 → D_X3_becomeUnit_8 i r2 q4 nn8 y2_8 f_8 = (o_r, o_q, o_f) → Bd κ A s (cw κ a r2 q4 f_8) H locs → ∀ ls : Array Slot, lv_has ls 3 [(2, .int y2_8), (0, .ref (a (6 + 2 * i))), (1, .int p0)] → W p l e (Rm 2 44 0 0) s m args below meth c H locs 0 0 Q (F0 m 8 ls []) := by
    intro nn8
    induction nn8 with
    | zero => intro y2_8 f_8 H locs hμ; exact absurd hμ (Nat.not_lt_zero _)
    | succ nn8 ih8 =>
      intro y2_8 f_8 H locs hμ8 hR hB ls hl
      replace hR := (D_X3_becomeUnit_8_s).symm.trans hR
      refine lv_iload_n hx hb dX3_becomeUnit_8 rfl (lv_at hl 0 rfl) ?_
      refine lv_aload_n hx hb dX3_becomeUnit_9 rfl (lv_at hl 1 rfl) ?_
      refine gf hX hB (cwG (i := i) hi) rfl in3 1 (by decide) wm_1_46 rfl rfl dX3_becomeUnit_10 ?_
      refine lv_icmp_ge (tgt := 29) hx hb dX3_becomeUnit_13 (by decide) (fun c13 => ?_) (fun c13 => ?_)
      · replace hR := ifp c13 hR
        rw [← hQ]
        exact end_v hX hB hA3 rfl (by obtain ⟨rfl, rfl, rfl⟩ := pr3 hR; exact ⟨rfl, (fun h => ho3 ((fun h => h) h)), (hq5.trans rfl), rfl⟩) (Nat.le_of_ble_eq_true rfl) (Nat.le_of_ble_eq_true rfl) dX3_becomeUnit_29
      · replace hR := ifn c13 hR
        refine lv_aload_n hx hb dX3_becomeUnit_16 rfl (lv_at hl 1 rfl) ?_
        refine lv_iload_n hx hb dX3_becomeUnit_17 rfl (lv_at hl 0 rfl) ?_
        refine lv_iload_n hx hb dX3_becomeUnit_18 rfl (lv_at hl 0 rfl) ?_
        refine lv_lconst (v := 1) hx hb dX3_becomeUnit_19 (by decide) ?_
        obtain ⟨f15, hd14⟩ := ex1 (D_X3_set r2 q4 f_8 i y2_8 y2_8 1)
        replace hR := bnd1_use hd14 hR
        refine call_V (n := 3) (As := [.int y2_8, .int y2_8, .long 1]) (rest := []) hX hB (k_X3_set κ l a r2 q4 f_8 i y2_8 y2_8 1 hi f15 hd14) ⟨rfl, by decide, by decide, by decide +kernel⟩ wm_1_222 wm_1_223 wm_1_224 wm_1_2 wm_1_225 ⟨Nat.le_of_ble_eq_true rfl, Nat.le_of_ble_eq_true rfl⟩ ⟨Nat.le_of_ble_eq_true rfl, Nat.le_of_ble_eq_true rfl⟩ (cwG (i := i) hi) rfl rfl rfl hl.1 rfl (Nat.le_of_ble_eq_true rfl) dX3_becomeUnit_20 (fun o w' H locs hp hB => ?_)
        obtain ⟨rfl, rfl⟩ := hp
        refine W.eq (g2 := F0 m 23 ls []) rfl ?_
        refine lv_iinc (v := y2_8 + 1) (lv' := [(2, .int (y2_8 + 1)), (0, .ref (a (6 + 2 * i))), (1, .int p0)]) hx hb dX3_becomeUnit_23 hl (k := 0) rfl rfl (by decide) rfl (fun ls hl => ?_)
        refine lv_goto (tgt := 8) hx hb dX3_becomeUnit_26 (by decide) ?_
        exact ih8 (y2_8 + 1) f15 _ _  (gap_step c13 hμ8) hR hB _ hl
  exact lp8 _ 0 f6 _ _  (Nat.lt_succ_self _) hR hB _ hl
noncomputable def D_X3_becomeLike_18 (r : Nat → Int32) (q : Nat → Int32) (i : Nat) (j : Nat) (nn : Nat) : Int32 → (Nat → Nat → Int64) → (Nat → Int32) × (Nat → Int32) × (Nat → Nat → Int64) := @Nat.rec (fun _ => Int32 → (Nat → Nat → Int64) → (Nat → Int32) × (Nat → Int32) × (Nat → Nat → Int64)) (fun _ _ => default) (fun _ lb18 (y2_18 : Int32) (f_18 : Nat → Nat → Int64) => (if 20 ≤ y2_18 then (va_up (va_up r (2 * i) (r (2 * j))) (2 * i + 1) (va_up r (2 * i) (r (2 * j)) (2 * j + 1)), q, f_18) else (if 20 ≤ y2_18 then (va_up (va_up r (2 * i) (r (2 * j))) (2 * i + 1) (va_up r (2 * i) (r (2 * j)) (2 * j + 1)), q, f_18) else nm (((f_18 j) (y2_18).toNatClampNeg) : Int64) (fun (g9 : Int64) => (lb18 (y2_18 + 1) (va_up f_18 i (vp_updL (f_18 i) (y2_18).toNatClampNeg g9))))))) nn
theorem D_X3_becomeLike_18_s {r : Nat → Int32} {q : Nat → Int32} {i : Nat} {j : Nat} {nn : Nat} {y2_18 : Int32} {f_18 : Nat → Nat → Int64} : D_X3_becomeLike_18 r q i j (nn + 1) y2_18 f_18 = (if 20 ≤ y2_18 then (va_up (va_up r (2 * i) (r (2 * j))) (2 * i + 1) (va_up r (2 * i) (r (2 * j)) (2 * j + 1)), q, f_18) else (if 20 ≤ y2_18 then (va_up (va_up r (2 * i) (r (2 * j))) (2 * i + 1) (va_up r (2 * i) (r (2 * j)) (2 * j + 1)), q, f_18) else nm (((f_18 j) (y2_18).toNatClampNeg) : Int64) (fun (g9 : Int64) => ((D_X3_becomeLike_18 r q i j nn) (y2_18 + 1) (va_up f_18 i (vp_updL (f_18 i) (y2_18).toNatClampNeg g9)))))) := rfl
noncomputable def D_X3_becomeLike (r : Nat → Int32) (q : Nat → Int32) (f : Nat → Nat → Int64) (i : Nat) (j : Nat) : (Nat → Int32) × (Nat → Int32) × (Nat → Nat → Int64) := (D_X3_becomeLike_18 r q i j (gap 20 0 + 1) 0 f)
theorem D_X3_becomeLike_s {r : Nat → Int32} {q : Nat → Int32} {f : Nat → Nat → Int64} {i : Nat} {j : Nat} : D_X3_becomeLike r q f i j = (D_X3_becomeLike_18 r q i j (gap 20 0 + 1) 0 f) := rfl
set_option maxHeartbeats 4000000 in
set_option maxRecDepth 100000 in
theorem k_X3_becomeLike (κ : Kt) (l : Launch) (a : Nat → Nat) (r q : Nat → Int32) (f : Nat → Nat → Int64) (i : Nat) (j : Nat) (hi : i < 15) (hj : j < 15) (o_r : Nat → Int32) (o_q : Nat → Int32) (o_f : Nat → Nat → Int64) (hR : D_X3_becomeLike r q f i j = (o_r, o_q, o_f)) : CM κ l yX3_becomeLike cX3_becomeLike 3 (none) 0 0 0 0 [.ref (a (6 + 2 * i)), .ref (a (6 + 2 * j))] (cw κ a r q f) (fun o w' => o = none ∧ (okr r → okr o_r) ∧ o_q 4 = q 4 ∧ w' = cw κ a o_r o_q o_f) := by
  refine CM_begin (plainFor_of_name (by decide)) (Nat.le_of_ble_eq_true rfl) ?_
  intro p e s m args below meth c A Q hX hnm hA3 hQ hB ls hl
  have hx := hX.1.1
  have hb := hX.1.2.1
  have hl : lv_has ls 3 [(0, .ref (a (6 + 2 * i))), (1, .ref (a (6 + 2 * j)))] := hl
  replace hR := (D_X3_becomeLike_s).symm.trans hR
  refine lv_aload_n hx hb dX3_becomeLike_0 rfl (lv_at hl 0 rfl) ?_
  refine lv_aload_n hx hb dX3_becomeLike_1 rfl (lv_at hl 1 rfl) ?_
  refine gf hX hB (cwG (i := j) hj) rfl in3 1 (by decide) wm_1_46 rfl rfl dX3_becomeLike_2 ?_
  refine pf (ty := .int) hX hB (cwG (i := i) hi) rfl in3 tyX3_ok nmX3 1 (by decide) wm_1_46 rfl rfl rfl rfl rfl (Nat.le_of_ble_eq_true rfl) (cwSR (i := i) hi _) dX3_becomeLike_5 (fun H locs hB => ?_)
  refine lv_aload_n hx hb dX3_becomeLike_8 rfl (lv_at hl 0 rfl) ?_
  refine lv_aload_n hx hb dX3_becomeLike_9 rfl (lv_at hl 1 rfl) ?_
  refine gf hX hB (cwG (i := j) hj) rfl in3 2 (by decide) wm_1_52 rfl rfl dX3_becomeLike_10 ?_
  refine pf (ty := .int) hX hB (cwG (i := i) hi) rfl in3 tyX3_ok nmX3 2 (by decide) wm_1_52 rfl rfl rfl rfl rfl (Nat.le_of_ble_eq_true rfl) (cwSC (i := i) hi _) dX3_becomeLike_13 (fun H locs hB => ?_)
  refine lv_iconst (v := 0) hx hb dX3_becomeLike_16 (by decide) ?_
  refine lv_istore_n (lv' := [(2, .int 0), (0, .ref (a (6 + 2 * i))), (1, .ref (a (6 + 2 * j)))]) hx hb dX3_becomeLike_17 rfl hl (by decide) rfl (fun ls hl => ?_)
  have lp18 : ∀ (nn18 : Nat) (y2_18 : Int32) (f_18 : Nat → Nat → Int64) (H : Heap) (locs : List Loc), 0 ≤ y2_18 → gap 20 y2_18 < nn18 → D_X3_becomeLike_18 r q i j nn18 y2_18 f_18 = (o_r, o_q, o_f) → Bd κ A s (cw κ a (va_up (va_up r (2 * i) (r (2 * j))) (2 * i + 1) (va_up r (2 * i) (r (2 * j)) (2 * j + 1))) q f_18) H locs → ∀ ls : Array Slot, lv_has ls 3 [(2, .int y2_18), (0, .ref (a (6 + 2 * i))), (1, .ref (a (6 + 2 * j)))] → W p l e (Rm 0 0 0 0) s m args below meth c H locs 0 0 Q (F0 m 18 ls []) := by
    intro nn18
    induction nn18 with
    | zero => intro y2_18 f_18 H locs hn2_18 hμ; exact absurd hμ (Nat.not_lt_zero _)
    | succ nn18 ih18 =>
      intro y2_18 f_18 H locs hn2_18 hμ18 hR hB ls hl
      replace hR := (D_X3_becomeLike_18_s).symm.trans hR
      refine lv_iload_n hx hb dX3_becomeLike_18 rfl (lv_at hl 0 rfl) ?_
      refine lv_aload_n hx hb dX3_becomeLike_19 rfl (lv_at hl 1 rfl) ?_
      refine gf hX hB (cwG (i := i) hi) rfl in3 0 (by decide) wm_1_45 rfl rfl dX3_becomeLike_20 ?_
      refine alenL (v := 20) hX hB (cwC (i := i) hi) rfl dX3_becomeLike_23 ?_
      refine lv_icmp_ge (tgt := 54) hx hb dX3_becomeLike_24 (by decide) (fun c7 => ?_) (fun c7 => ?_)
      · replace hR := ifp c7 hR
        rw [← hQ]
        exact end_v hX hB hA3 rfl (by obtain ⟨rfl, rfl, rfl⟩ := pr3 hR; exact ⟨rfl, (fun h => okr_like hj h), rfl, rfl⟩) (Nat.le_of_ble_eq_true rfl) (Nat.le_of_ble_eq_true rfl) dX3_becomeLike_54
      · replace hR := ifn c7 hR
        refine lv_iload_n hx hb dX3_becomeLike_27 rfl (lv_at hl 0 rfl) ?_
        refine lv_aload_n hx hb dX3_becomeLike_28 rfl (lv_at hl 2 rfl) ?_
        refine gf hX hB (cwG (i := j) hj) rfl in3 0 (by decide) wm_1_45 rfl rfl dX3_becomeLike_29 ?_
        refine alenL (v := 20) hX hB (cwC (i := j) hj) rfl dX3_becomeLike_32 ?_
        refine lv_icmp_ge (tgt := 54) hx hb dX3_becomeLike_33 (by decide) (fun c8 => ?_) (fun c8 => ?_)
        · replace hR := ifp c8 hR
          rw [← hQ]
          exact end_v hX hB hA3 rfl (by obtain ⟨rfl, rfl, rfl⟩ := pr3 hR; exact ⟨rfl, (fun h => okr_like hj h), rfl, rfl⟩) (Nat.le_of_ble_eq_true rfl) (Nat.le_of_ble_eq_true rfl) dX3_becomeLike_54
        · replace hR := ifn c8 hR
          refine lv_aload_n hx hb dX3_becomeLike_36 rfl (lv_at hl 1 rfl) ?_
          refine gf hX hB (cwG (i := i) hi) rfl in3 0 (by decide) wm_1_45 rfl rfl dX3_becomeLike_37 ?_
          refine lv_iload_n hx hb dX3_becomeLike_40 rfl (lv_at hl 0 rfl) ?_
          refine lv_aload_n hx hb dX3_becomeLike_41 rfl (lv_at hl 2 rfl) ?_
          refine gf hX hB (cwG (i := j) hj) rfl in3 0 (by decide) wm_1_45 rfl rfl dX3_becomeLike_42 ?_
          refine lv_iload_n hx hb dX3_becomeLike_45 rfl (lv_at hl 0 rfl) ?_
          refine lald hX hB (cwC (i := j) hj) (in_of (N := 20) rfl hn2_18 c7) dX3_becomeLike_46 ?_
          refine lv_topl (fun g9 eg9 => ?_)
          replace hR := nm_use eg9 hR
          refine last hX hB (cwC (i := i) hi) (in_of (N := 20) rfl hn2_18 c7) (cwSL (i := i) hi _) dX3_becomeLike_47 (fun H locs hB => ?_)
          refine lv_iinc (v := y2_18 + 1) (lv' := [(2, .int (y2_18 + 1)), (0, .ref (a (6 + 2 * i))), (1, .ref (a (6 + 2 * j)))]) hx hb dX3_becomeLike_48 hl (k := 0) rfl rfl (by decide) rfl (fun ls hl => ?_)
          refine lv_goto (tgt := 18) hx hb dX3_becomeLike_51 (by decide) ?_
          exact ih18 (y2_18 + 1) (va_up f_18 i (vp_updL (f_18 i) (y2_18).toNatClampNeg g9)) _ _ (nn_step hn2_18 c7) (gap_step c7 hμ18) hR hB _ hl
  exact lp18 _ 0 f _ _ (by decide) (Nat.lt_succ_self _) hR hB _ hl
noncomputable def D_X3_takeOver_20 (r : Nat → Int32) (q : Nat → Int32) (i : Nat) (j : Nat) (lb2 : Int32 → (Nat → Nat → Int64) → (Nat → Nat → Int64)) (y2_2 : Int32) (nn : Nat) : Int32 → (Nat → Nat → Int64) → (Nat → Nat → Int64) := @Nat.rec (fun _ => Int32 → (Nat → Nat → Int64) → (Nat → Nat → Int64)) (fun _ _ => default) (fun _ lb20 (y3_20 : Int32) (f_20 : Nat → Nat → Int64) => (if (r (2 * i + 1)) ≤ y3_20 then (lb2 (y2_2 + 1) f_20) else (if (r (2 * j + 1)) ≤ y3_20 then (lb2 (y2_2 + 1) f_20) else bnd1 (D_X3_get r q f_20 j y2_2 y3_20) (fun (x58 : Int64) => bnd1 (D_X3_set r q f_20 i y2_2 y3_20 x58) (fun (f60 : Nat → Nat → Int64) => (lb20 (y3_20 + 1) f60)))))) nn
theorem D_X3_takeOver_20_s {r : Nat → Int32} {q : Nat → Int32} {i : Nat} {j : Nat} {lb2 : Int32 → (Nat → Nat → Int64) → (Nat → Nat → Int64)} {y2_2 : Int32} {nn : Nat} {y3_20 : Int32} {f_20 : Nat → Nat → Int64} : D_X3_takeOver_20 r q i j lb2 y2_2 (nn + 1) y3_20 f_20 = (if (r (2 * i + 1)) ≤ y3_20 then (lb2 (y2_2 + 1) f_20) else (if (r (2 * j + 1)) ≤ y3_20 then (lb2 (y2_2 + 1) f_20) else bnd1 (D_X3_get r q f_20 j y2_2 y3_20) (fun (x58 : Int64) => bnd1 (D_X3_set r q f_20 i y2_2 y3_20 x58) (fun (f60 : Nat → Nat → Int64) => ((D_X3_takeOver_20 r q i j lb2 y2_2 nn) (y3_20 + 1) f60))))) := rfl
noncomputable def D_X3_takeOver_2 (r : Nat → Int32) (q : Nat → Int32) (i : Nat) (j : Nat) (nn : Nat) : Int32 → (Nat → Nat → Int64) → (Nat → Nat → Int64) := @Nat.rec (fun _ => Int32 → (Nat → Nat → Int64) → (Nat → Nat → Int64)) (fun _ _ => default) (fun _ lb2 (y2_2 : Int32) (f_2 : Nat → Nat → Int64) => (if (r (2 * i)) ≤ y2_2 then f_2 else (if (r (2 * j)) ≤ y2_2 then f_2 else (D_X3_takeOver_20 r q i j lb2 y2_2 (gap (r (2 * i + 1)) 0 + 1) 0 f_2)))) nn
theorem D_X3_takeOver_2_s {r : Nat → Int32} {q : Nat → Int32} {i : Nat} {j : Nat} {nn : Nat} {y2_2 : Int32} {f_2 : Nat → Nat → Int64} : D_X3_takeOver_2 r q i j (nn + 1) y2_2 f_2 = (if (r (2 * i)) ≤ y2_2 then f_2 else (if (r (2 * j)) ≤ y2_2 then f_2 else (D_X3_takeOver_20 r q i j (D_X3_takeOver_2 r q i j nn) y2_2 (gap (r (2 * i + 1)) 0 + 1) 0 f_2))) := rfl
noncomputable def D_X3_takeOver (r : Nat → Int32) (q : Nat → Int32) (f : Nat → Nat → Int64) (i : Nat) (j : Nat) : (Nat → Nat → Int64) := (D_X3_takeOver_2 r q i j (gap (r (2 * i)) 0 + 1) 0 f)
theorem D_X3_takeOver_s {r : Nat → Int32} {q : Nat → Int32} {f : Nat → Nat → Int64} {i : Nat} {j : Nat} : D_X3_takeOver r q f i j = (D_X3_takeOver_2 r q i j (gap (r (2 * i)) 0 + 1) 0 f) := rfl
set_option maxHeartbeats 4000000 in
set_option maxRecDepth 100000 in
theorem k_X3_takeOver (κ : Kt) (l : Launch) (a : Nat → Nat) (r q : Nat → Int32) (f : Nat → Nat → Int64) (i : Nat) (j : Nat) (hi : i < 15) (hj : j < 15) (o_f : Nat → Nat → Int64) (hR : D_X3_takeOver r q f i j = o_f) : CM κ l yX3_takeOver cX3_takeOver 4 (none) 1 24 0 0 [.ref (a (6 + 2 * i)), .ref (a (6 + 2 * j))] (cw κ a r q f) (fun o w' => o = none ∧ w' = cw κ a r q o_f) := by
  refine CM_begin (plainFor_of_name (by decide)) (Nat.le_of_ble_eq_true rfl) ?_
  intro p e s m args below meth c A Q hX hnm hA3 hQ hB ls hl
  have hx := hX.1.1
  have hb := hX.1.2.1
  have hl : lv_has ls 4 [(0, .ref (a (6 + 2 * i))), (1, .ref (a (6 + 2 * j)))] := hl
  replace hR := (D_X3_takeOver_s).symm.trans hR
  refine lv_iconst (v := 0) hx hb dX3_takeOver_0 (by decide) ?_
  refine lv_istore_n (lv' := [(2, .int 0), (0, .ref (a (6 + 2 * i))), (1, .ref (a (6 + 2 * j)))]) hx hb dX3_takeOver_1 rfl hl (by decide) rfl (fun ls hl => ?_)
  have lp2 : ∀ (nn2 : Nat) (y2_2 : Int32) (f_2 : Nat → Nat → Int64) (H : Heap) (locs : List Loc), gap (r (2 * i)) y2_2 < nn2 → D_X3_takeOver_2 r q i j nn2 y2_2 f_2 = o_f → Bd κ A s (cw κ a r q f_2) H locs → ∀ ls : Array Slot, lv_has ls 4 [(2, .int y2_2), (0, .ref (a (6 + 2 * i))), (1, .ref (a (6 + 2 * j)))] → W p l e (Rm 1 24 0 0) s m args below meth c H locs 0 0 Q (F0 m 2 ls []) := by
    intro nn2
    induction nn2 with
    | zero => intro y2_2 f_2 H locs hμ; exact absurd hμ (Nat.not_lt_zero _)
    | succ nn2 ih2 =>
      intro y2_2 f_2 H locs hμ2 hR hB ls hl
      replace hR := (D_X3_takeOver_2_s).symm.trans hR
      refine lv_iload_n hx hb dX3_takeOver_2 rfl (lv_at hl 0 rfl) ?_
      refine lv_aload_n hx hb dX3_takeOver_3 rfl (lv_at hl 1 rfl) ?_
      refine gf hX hB (cwG (i := i) hi) rfl in3 1 (by decide) wm_1_46 rfl rfl dX3_takeOver_4 ?_
      refine lv_icmp_ge (tgt := 60) hx hb dX3_takeOver_7 (by decide) (fun c41 => ?_) (fun c41 => ?_)
      · replace hR := ifp c41 hR
        rw [← hQ]
        exact end_v hX hB hA3 rfl (by obtain rfl := hR; exact ⟨rfl, rfl⟩) (Nat.le_of_ble_eq_true rfl) (Nat.le_of_ble_eq_true rfl) dX3_takeOver_60
      · replace hR := ifn c41 hR
        refine lv_iload_n hx hb dX3_takeOver_10 rfl (lv_at hl 0 rfl) ?_
        refine lv_aload_n hx hb dX3_takeOver_11 rfl (lv_at hl 2 rfl) ?_
        refine gf hX hB (cwG (i := j) hj) rfl in3 1 (by decide) wm_1_46 rfl rfl dX3_takeOver_12 ?_
        refine lv_icmp_ge (tgt := 60) hx hb dX3_takeOver_15 (by decide) (fun c42 => ?_) (fun c42 => ?_)
        · replace hR := ifp c42 hR
          rw [← hQ]
          exact end_v hX hB hA3 rfl (by obtain rfl := hR; exact ⟨rfl, rfl⟩) (Nat.le_of_ble_eq_true rfl) (Nat.le_of_ble_eq_true rfl) dX3_takeOver_60
        · replace hR := ifn c42 hR
          refine lv_iconst (v := 0) hx hb dX3_takeOver_18 (by decide) ?_
          refine lv_istore_n (lv' := [(3, .int 0), (2, .int y2_2), (0, .ref (a (6 + 2 * i))), (1, .ref (a (6 + 2 * j)))]) hx hb dX3_takeOver_19 rfl hl (by decide) rfl (fun ls hl => ?_)
          have lp20 : ∀ (nn20 : Nat) (y3_20 : Int32) (f_20 : Nat → Nat → Int64) (H : Heap) (locs : List Loc), gap (r (2 * i + 1)) y3_20 < nn20 → D_X3_takeOver_20 r q i j (D_X3_takeOver_2 r q i j nn2) y2_2 nn20 y3_20 f_20 = o_f → Bd κ A s (cw κ a r q f_20) H locs → ∀ ls : Array Slot, lv_has ls 4 [(3, .int y3_20), (2, .int y2_2), (0, .ref (a (6 + 2 * i))), (1, .ref (a (6 + 2 * j)))] → W p l e (Rm 1 24 0 0) s m args below meth c H locs 0 0 Q (F0 m 20 ls []) := by
            intro nn20
            induction nn20 with
            | zero => intro y3_20 f_20 H locs hμ; exact absurd hμ (Nat.not_lt_zero _)
            | succ nn20 ih20 =>
              intro y3_20 f_20 H locs hμ20 hR hB ls hl
              replace hR := (D_X3_takeOver_20_s).symm.trans hR
              refine lv_iload_n hx hb dX3_takeOver_20 rfl (lv_at hl 0 rfl) ?_
              refine lv_aload_n hx hb dX3_takeOver_21 rfl (lv_at hl 2 rfl) ?_
              refine gf hX hB (cwG (i := i) hi) rfl in3 2 (by decide) wm_1_52 rfl rfl dX3_takeOver_22 ?_
              refine lv_icmp_ge (tgt := 54) hx hb dX3_takeOver_25 (by decide) (fun c55 => ?_) (fun c55 => ?_)
              · replace hR := ifp c55 hR
                refine lv_iinc (v := y2_2 + 1) (lv' := [(2, .int (y2_2 + 1)), (3, .int y3_20), (0, .ref (a (6 + 2 * i))), (1, .ref (a (6 + 2 * j)))]) hx hb dX3_takeOver_54 hl (k := 1) rfl rfl (by decide) rfl (fun ls hl => ?_)
                refine lv_goto (tgt := 2) hx hb dX3_takeOver_57 (by decide) ?_
                exact ih2 (y2_2 + 1) f_20 _ _  (gap_step c41 hμ2) hR hB _ (lv_sub hl [0, 2, 3] rfl)
              · replace hR := ifn c55 hR
                refine lv_iload_n hx hb dX3_takeOver_28 rfl (lv_at hl 0 rfl) ?_
                refine lv_aload_n hx hb dX3_takeOver_29 rfl (lv_at hl 3 rfl) ?_
                refine gf hX hB (cwG (i := j) hj) rfl in3 2 (by decide) wm_1_52 rfl rfl dX3_takeOver_30 ?_
                refine lv_icmp_ge (tgt := 54) hx hb dX3_takeOver_33 (by decide) (fun c56 => ?_) (fun c56 => ?_)
                · replace hR := ifp c56 hR
                  refine lv_iinc (v := y2_2 + 1) (lv' := [(2, .int (y2_2 + 1)), (3, .int y3_20), (0, .ref (a (6 + 2 * i))), (1, .ref (a (6 + 2 * j)))]) hx hb dX3_takeOver_54 hl (k := 1) rfl rfl (by decide) rfl (fun ls hl => ?_)
                  refine lv_goto (tgt := 2) hx hb dX3_takeOver_57 (by decide) ?_
                  exact ih2 (y2_2 + 1) f_20 _ _  (gap_step c41 hμ2) hR hB _ (lv_sub hl [0, 2, 3] rfl)
                · replace hR := ifn c56 hR
                  refine lv_aload_n hx hb dX3_takeOver_36 rfl (lv_at hl 2 rfl) ?_
                  refine lv_iload_n hx hb dX3_takeOver_37 rfl (lv_at hl 1 rfl) ?_
                  refine lv_iload_n hx hb dX3_takeOver_38 rfl (lv_at hl 0 rfl) ?_
                  refine lv_aload_n hx hb dX3_takeOver_39 rfl (lv_at hl 3 rfl) ?_
                  refine lv_iload_n hx hb dX3_takeOver_40 rfl (lv_at hl 1 rfl) ?_
                  refine lv_iload_n hx hb dX3_takeOver_41 rfl (lv_at hl 0 rfl) ?_
                  obtain ⟨x58, hd57⟩ := ex1 (D_X3_get r q f_20 j y2_2 y3_20)
                  replace hR := bnd1_use hd57 hR
                  refine call_V (n := 2) (As := [.int y2_2, .int y3_20]) (rest := [.int y3_20, .int y2_2, .ref (a (6 + 2 * i))]) hX hB (k_X3_get κ l a r q f_20 j y2_2 y3_20 hj x58 hd57) ⟨rfl, by decide, by decide, by decide +kernel⟩ wm_2_7 wm_1_187 wm_1_188 wm_1_2 wm_1_189 ⟨Nat.le_of_ble_eq_true rfl, Nat.le_of_ble_eq_true rfl⟩ ⟨Nat.le_of_ble_eq_true rfl, Nat.le_of_ble_eq_true rfl⟩ (cwG (i := j) hj) rfl rfl rfl hl.1 rfl (Nat.le_of_ble_eq_true rfl) dX3_takeOver_42 (fun o w' H locs hp hB => ?_)
                  obtain ⟨rfl, rfl⟩ := hp
                  refine W.eq (g2 := F0 m 45 ls [.long x58, .int y3_20, .int y2_2, .ref (a (6 + 2 * i))]) rfl ?_
                  obtain ⟨f60, hd59⟩ := ex1 (D_X3_set r q f_20 i y2_2 y3_20 x58)
                  replace hR := bnd1_use hd59 hR
                  refine call_V (n := 3) (As := [.int y2_2, .int y3_20, .long x58]) (rest := []) hX hB (k_X3_set κ l a r q f_20 i y2_2 y3_20 x58 hi f60 hd59) ⟨rfl, by decide, by decide, by decide +kernel⟩ wm_1_222 wm_1_223 wm_1_224 wm_1_2 wm_1_225 ⟨Nat.le_of_ble_eq_true rfl, Nat.le_of_ble_eq_true rfl⟩ ⟨Nat.le_of_ble_eq_true rfl, Nat.le_of_ble_eq_true rfl⟩ (cwG (i := i) hi) rfl rfl rfl hl.1 rfl (Nat.le_of_ble_eq_true rfl) dX3_takeOver_45 (fun o w' H locs hp hB => ?_)
                  obtain ⟨rfl, rfl⟩ := hp
                  refine W.eq (g2 := F0 m 48 ls []) rfl ?_
                  refine lv_iinc (v := y3_20 + 1) (lv' := [(3, .int (y3_20 + 1)), (2, .int y2_2), (0, .ref (a (6 + 2 * i))), (1, .ref (a (6 + 2 * j)))]) hx hb dX3_takeOver_48 hl (k := 0) rfl rfl (by decide) rfl (fun ls hl => ?_)
                  refine lv_goto (tgt := 20) hx hb dX3_takeOver_51 (by decide) ?_
                  exact ih20 (y3_20 + 1) f60 _ _  (gap_step c55 hμ20) hR hB _ hl
          exact lp20 _ 0 f_2 _ _  (Nat.lt_succ_self _) hR hB _ hl
  exact lp2 _ 0 f _ _  (Nat.lt_succ_self _) hR hB _ hl
noncomputable def D_X3_becomeColumn_11 (i : Nat) (j : Nat) (p1 : Int32) (r2 : Nat → Int32) (q4 : Nat → Int32) (nn : Nat) : Int32 → (Nat → Nat → Int64) → (Nat → Int32) × (Nat → Int32) × (Nat → Nat → Int64) := @Nat.rec (fun _ => Int32 → (Nat → Nat → Int64) → (Nat → Int32) × (Nat → Int32) × (Nat → Nat → Int64)) (fun _ _ => default) (fun _ lb11 (y3_11 : Int32) (f_11 : Nat → Nat → Int64) => (if (r2 (2 * i)) ≤ y3_11 then (r2, q4, f_11) else bnd1 (D_X3_get r2 q4 f_11 j y3_11 p1) (fun (x19 : Int64) => bnd1 (D_X3_set r2 q4 f_11 i y3_11 0 x19) (fun (f21 : Nat → Nat → Int64) => (lb11 (y3_11 + 1) f21))))) nn
theorem D_X3_becomeColumn_11_s {i : Nat} {j : Nat} {p1 : Int32} {r2 : Nat → Int32} {q4 : Nat → Int32} {nn : Nat} {y3_11 : Int32} {f_11 : Nat → Nat → Int64} : D_X3_becomeColumn_11 i j p1 r2 q4 (nn + 1) y3_11 f_11 = (if (r2 (2 * i)) ≤ y3_11 then (r2, q4, f_11) else bnd1 (D_X3_get r2 q4 f_11 j y3_11 p1) (fun (x19 : Int64) => bnd1 (D_X3_set r2 q4 f_11 i y3_11 0 x19) (fun (f21 : Nat → Nat → Int64) => ((D_X3_becomeColumn_11 i j p1 r2 q4 nn) (y3_11 + 1) f21)))) := rfl
noncomputable def D_X3_becomeColumn (r : Nat → Int32) (q : Nat → Int32) (f : Nat → Nat → Int64) (i : Nat) (j : Nat) (p1 : Int32) : (Nat → Int32) × (Nat → Int32) × (Nat → Nat → Int64) := bnd3 (D_X3_reshape r q f i (r (2 * j)) 1) (fun (r2 : Nat → Int32) (q4 : Nat → Int32) (f6 : Nat → Nat → Int64) => (D_X3_becomeColumn_11 i j p1 r2 q4 (gap (r2 (2 * i)) 0 + 1) 0 f6))
theorem D_X3_becomeColumn_s {r : Nat → Int32} {q : Nat → Int32} {f : Nat → Nat → Int64} {i : Nat} {j : Nat} {p1 : Int32} : D_X3_becomeColumn r q f i j p1 = bnd3 (D_X3_reshape r q f i (r (2 * j)) 1) (fun (r2 : Nat → Int32) (q4 : Nat → Int32) (f6 : Nat → Nat → Int64) => (D_X3_becomeColumn_11 i j p1 r2 q4 (gap (r2 (2 * i)) 0 + 1) 0 f6)) := rfl
set_option maxHeartbeats 4000000 in
set_option maxRecDepth 100000 in
theorem k_X3_becomeColumn (κ : Kt) (l : Launch) (a : Nat → Nat) (r q : Nat → Int32) (f : Nat → Nat → Int64) (i : Nat) (j : Nat) (p1 : Int32) (hi : i < 15) (hj : j < 15) (o_r : Nat → Int32) (o_q : Nat → Int32) (o_f : Nat → Nat → Int64) (hR : D_X3_becomeColumn r q f i j p1 = (o_r, o_q, o_f)) : CM κ l yX3_becomeColumn cX3_becomeColumn 4 (none) 2 44 0 0 [.ref (a (6 + 2 * i)), .ref (a (6 + 2 * j)), .int p1] (cw κ a r q f) (fun o w' => o = none ∧ (okr r → okr o_r) ∧ o_q 4 = q 4 ∧ w' = cw κ a o_r o_q o_f) := by
  refine CM_begin (plainFor_of_name (by decide)) (Nat.le_of_ble_eq_true rfl) ?_
  intro p e s m args below meth c A Q hX hnm hA3 hQ hB ls hl
  have hx := hX.1.1
  have hb := hX.1.2.1
  have hl : lv_has ls 4 [(0, .ref (a (6 + 2 * i))), (1, .ref (a (6 + 2 * j))), (2, .int p1)] := hl
  replace hR := (D_X3_becomeColumn_s).symm.trans hR
  refine lv_aload_n hx hb dX3_becomeColumn_0 rfl (lv_at hl 0 rfl) ?_
  refine lv_aload_n hx hb dX3_becomeColumn_1 rfl (lv_at hl 1 rfl) ?_
  refine gf hX hB (cwG (i := j) hj) rfl in3 1 (by decide) wm_1_46 rfl rfl dX3_becomeColumn_2 ?_
  refine lv_iconst (v := 1) hx hb dX3_becomeColumn_5 (by decide) ?_
  obtain ⟨r2, q4, f6, hd1⟩ := ex3 (D_X3_reshape r q f i (r (2 * j)) 1)
  replace hR := bnd3_use hd1 hR
  refine call_V (n := 2) (As := [.int (r (2 * j)), .int 1]) (rest := []) hX hB (k_X3_reshape κ l a r q f i (r (2 * j)) 1 hi r2 q4 f6 hd1) ⟨rfl, by decide, by decide, by decide +kernel⟩ wm_1_212 wm_1_213 wm_1_214 wm_1_2 wm_1_215 ⟨Nat.le_of_ble_eq_true rfl, Nat.le_of_ble_eq_true rfl⟩ ⟨Nat.le_of_ble_eq_true rfl, Nat.le_of_ble_eq_true rfl⟩ (cwG (i := i) hi) rfl rfl rfl hl.1 rfl (Nat.le_of_ble_eq_true rfl) dX3_becomeColumn_6 (fun o w' H locs hp hB => ?_)
  obtain ⟨rfl, ho3, hq5, rfl⟩ := hp
  refine W.eq (g2 := F0 m 9 ls []) rfl ?_
  refine lv_iconst (v := 0) hx hb dX3_becomeColumn_9 (by decide) ?_
  refine lv_istore_n (lv' := [(3, .int 0), (0, .ref (a (6 + 2 * i))), (1, .ref (a (6 + 2 * j))), (2, .int p1)]) hx hb dX3_becomeColumn_10 rfl hl (by decide) rfl (fun ls hl => ?_)
  have lp11 : ∀ (nn11 : Nat) (y3_11 : Int32) (f_11 : Nat → Nat → Int64) (H : Heap) (locs : List Loc), gap (r2 (2 * i)) y3_11 < nn11 → D_X3_becomeColumn_11 i j p1 r2 q4 nn11 y3_11 f_11 = (o_r, o_q, o_f) → Bd κ A s (cw κ a r2 q4 f_11) H locs → ∀ ls : Array Slot, lv_has ls 4 [(3, .int y3_11), (0, .ref (a (6 + 2 * i))), (1, .ref (a (6 + 2 * j))), (2, .int p1)] → W p l e (Rm 2 44 0 0) s m args below meth c H locs 0 0 Q (F0 m 11 ls []) := by
    intro nn11
    induction nn11 with
    | zero => intro y3_11 f_11 H locs hμ; exact absurd hμ (Nat.not_lt_zero _)
    | succ nn11 ih11 =>
      intro y3_11 f_11 H locs hμ11 hR hB ls hl
      replace hR := (D_X3_becomeColumn_11_s).symm.trans hR
      refine lv_iload_n hx hb dX3_becomeColumn_11 rfl (lv_at hl 0 rfl) ?_
      refine lv_aload_n hx hb dX3_becomeColumn_12 rfl (lv_at hl 1 rfl) ?_
      refine gf hX hB (cwG (i := i) hi) rfl in3 1 (by decide) wm_1_46 rfl rfl dX3_becomeColumn_13 ?_
      refine lv_icmp_ge (tgt := 37) hx hb dX3_becomeColumn_16 (by decide) (fun c17 => ?_) (fun c17 => ?_)
      · replace hR := ifp c17 hR
        rw [← hQ]
        exact end_v hX hB hA3 rfl (by obtain ⟨rfl, rfl, rfl⟩ := pr3 hR; exact ⟨rfl, (fun h => ho3 ((fun h => h) h)), (hq5.trans rfl), rfl⟩) (Nat.le_of_ble_eq_true rfl) (Nat.le_of_ble_eq_true rfl) dX3_becomeColumn_37
      · replace hR := ifn c17 hR
        refine lv_aload_n hx hb dX3_becomeColumn_19 rfl (lv_at hl 1 rfl) ?_
        refine lv_iload_n hx hb dX3_becomeColumn_20 rfl (lv_at hl 0 rfl) ?_
        refine lv_iconst (v := 0) hx hb dX3_becomeColumn_21 (by decide) ?_
        refine lv_aload_n hx hb dX3_becomeColumn_22 rfl (lv_at hl 2 rfl) ?_
        refine lv_iload_n hx hb dX3_becomeColumn_23 rfl (lv_at hl 0 rfl) ?_
        refine lv_iload_n hx hb dX3_becomeColumn_24 rfl (lv_at hl 3 rfl) ?_
        obtain ⟨x19, hd18⟩ := ex1 (D_X3_get r2 q4 f_11 j y3_11 p1)
        replace hR := bnd1_use hd18 hR
        refine call_V (n := 2) (As := [.int y3_11, .int p1]) (rest := [.int 0, .int y3_11, .ref (a (6 + 2 * i))]) hX hB (k_X3_get κ l a r2 q4 f_11 j y3_11 p1 hj x19 hd18) ⟨rfl, by decide, by decide, by decide +kernel⟩ wm_2_7 wm_1_187 wm_1_188 wm_1_2 wm_1_189 ⟨Nat.le_of_ble_eq_true rfl, Nat.le_of_ble_eq_true rfl⟩ ⟨Nat.le_of_ble_eq_true rfl, Nat.le_of_ble_eq_true rfl⟩ (cwG (i := j) hj) rfl rfl rfl hl.1 rfl (Nat.le_of_ble_eq_true rfl) dX3_becomeColumn_25 (fun o w' H locs hp hB => ?_)
        obtain ⟨rfl, rfl⟩ := hp
        refine W.eq (g2 := F0 m 28 ls [.long x19, .int 0, .int y3_11, .ref (a (6 + 2 * i))]) rfl ?_
        obtain ⟨f21, hd20⟩ := ex1 (D_X3_set r2 q4 f_11 i y3_11 0 x19)
        replace hR := bnd1_use hd20 hR
        refine call_V (n := 3) (As := [.int y3_11, .int 0, .long x19]) (rest := []) hX hB (k_X3_set κ l a r2 q4 f_11 i y3_11 0 x19 hi f21 hd20) ⟨rfl, by decide, by decide, by decide +kernel⟩ wm_1_222 wm_1_223 wm_1_224 wm_1_2 wm_1_225 ⟨Nat.le_of_ble_eq_true rfl, Nat.le_of_ble_eq_true rfl⟩ ⟨Nat.le_of_ble_eq_true rfl, Nat.le_of_ble_eq_true rfl⟩ (cwG (i := i) hi) rfl rfl rfl hl.1 rfl (Nat.le_of_ble_eq_true rfl) dX3_becomeColumn_28 (fun o w' H locs hp hB => ?_)
        obtain ⟨rfl, rfl⟩ := hp
        refine W.eq (g2 := F0 m 31 ls []) rfl ?_
        refine lv_iinc (v := y3_11 + 1) (lv' := [(3, .int (y3_11 + 1)), (0, .ref (a (6 + 2 * i))), (1, .ref (a (6 + 2 * j))), (2, .int p1)]) hx hb dX3_becomeColumn_31 hl (k := 0) rfl rfl (by decide) rfl (fun ls hl => ?_)
        refine lv_goto (tgt := 11) hx hb dX3_becomeColumn_34 (by decide) ?_
        exact ih11 (y3_11 + 1) f21 _ _  (gap_step c17 hμ11) hR hB _ hl
  exact lp11 _ 0 f6 _ _  (Nat.lt_succ_self _) hR hB _ hl
noncomputable def D_X3_becomeProduct_40 (i : Nat) (j : Nat) (k : Nat) (r2 : Nat → Int32) (q4 : Nat → Int32) (y3_14 : Int32) (lb25 : Int32 → (Nat → Nat → Int64) → (Nat → Int32) × (Nat → Int32) × (Nat → Nat → Int64)) (y4_25 : Int32) (f_25 : Nat → Nat → Int64) (nn : Nat) : Int32 → Int64 → (Nat → Int32) × (Nat → Int32) × (Nat → Nat → Int64) := @Nat.rec (fun _ => Int32 → Int64 → (Nat → Int32) × (Nat → Int32) × (Nat → Nat → Int64)) (fun _ _ => default) (fun _ lb40 (y7_40 : Int32) (y5_40 : Int64) => (if (r2 (2 * j + 1)) ≤ y7_40 then bnd1 (D_X3_set r2 q4 f_25 i y3_14 y4_25 y5_40) (fun (f338 : Nat → Nat → Int64) => (lb25 (y4_25 + 1) f338)) else bnd1 (D_X3_get r2 q4 f_25 j y3_14 y7_40) (fun (x340 : Int64) => bnd1 (D_X3_get r2 q4 f_25 k y7_40 y4_25) (fun (x342 : Int64) => (lb40 (y7_40 + 1) (y5_40 + (x340 * x342))))))) nn
theorem D_X3_becomeProduct_40_s {i : Nat} {j : Nat} {k : Nat} {r2 : Nat → Int32} {q4 : Nat → Int32} {y3_14 : Int32} {lb25 : Int32 → (Nat → Nat → Int64) → (Nat → Int32) × (Nat → Int32) × (Nat → Nat → Int64)} {y4_25 : Int32} {f_25 : Nat → Nat → Int64} {nn : Nat} {y7_40 : Int32} {y5_40 : Int64} : D_X3_becomeProduct_40 i j k r2 q4 y3_14 lb25 y4_25 f_25 (nn + 1) y7_40 y5_40 = (if (r2 (2 * j + 1)) ≤ y7_40 then bnd1 (D_X3_set r2 q4 f_25 i y3_14 y4_25 y5_40) (fun (f338 : Nat → Nat → Int64) => (lb25 (y4_25 + 1) f338)) else bnd1 (D_X3_get r2 q4 f_25 j y3_14 y7_40) (fun (x340 : Int64) => bnd1 (D_X3_get r2 q4 f_25 k y7_40 y4_25) (fun (x342 : Int64) => ((D_X3_becomeProduct_40 i j k r2 q4 y3_14 lb25 y4_25 f_25 nn) (y7_40 + 1) (y5_40 + (x340 * x342)))))) := rfl
noncomputable def D_X3_becomeProduct_25 (i : Nat) (j : Nat) (k : Nat) (r2 : Nat → Int32) (q4 : Nat → Int32) (lb14 : Int32 → (Nat → Nat → Int64) → (Nat → Int32) × (Nat → Int32) × (Nat → Nat → Int64)) (y3_14 : Int32) (nn : Nat) : Int32 → (Nat → Nat → Int64) → (Nat → Int32) × (Nat → Int32) × (Nat → Nat → Int64) := @Nat.rec (fun _ => Int32 → (Nat → Nat → Int64) → (Nat → Int32) × (Nat → Int32) × (Nat → Nat → Int64)) (fun _ _ => default) (fun _ lb25 (y4_25 : Int32) (f_25 : Nat → Nat → Int64) => (if (r2 (2 * i + 1)) ≤ y4_25 then (lb14 (y3_14 + 1) f_25) else (D_X3_becomeProduct_40 i j k r2 q4 y3_14 lb25 y4_25 f_25 (gap (r2 (2 * j + 1)) 0 + 1) 0 0))) nn
theorem D_X3_becomeProduct_25_s {i : Nat} {j : Nat} {k : Nat} {r2 : Nat → Int32} {q4 : Nat → Int32} {lb14 : Int32 → (Nat → Nat → Int64) → (Nat → Int32) × (Nat → Int32) × (Nat → Nat → Int64)} {y3_14 : Int32} {nn : Nat} {y4_25 : Int32} {f_25 : Nat → Nat → Int64} : D_X3_becomeProduct_25 i j k r2 q4 lb14 y3_14 (nn + 1) y4_25 f_25 = (if (r2 (2 * i + 1)) ≤ y4_25 then (lb14 (y3_14 + 1) f_25) else (D_X3_becomeProduct_40 i j k r2 q4 y3_14 (D_X3_becomeProduct_25 i j k r2 q4 lb14 y3_14 nn) y4_25 f_25 (gap (r2 (2 * j + 1)) 0 + 1) 0 0)) := rfl
noncomputable def D_X3_becomeProduct_14 (i : Nat) (j : Nat) (k : Nat) (r2 : Nat → Int32) (q4 : Nat → Int32) (nn : Nat) : Int32 → (Nat → Nat → Int64) → (Nat → Int32) × (Nat → Int32) × (Nat → Nat → Int64) := @Nat.rec (fun _ => Int32 → (Nat → Nat → Int64) → (Nat → Int32) × (Nat → Int32) × (Nat → Nat → Int64)) (fun _ _ => default) (fun _ lb14 (y3_14 : Int32) (f_14 : Nat → Nat → Int64) => (if (r2 (2 * i)) ≤ y3_14 then (r2, q4, f_14) else (D_X3_becomeProduct_25 i j k r2 q4 lb14 y3_14 (gap (r2 (2 * i + 1)) 0 + 1) 0 f_14))) nn
theorem D_X3_becomeProduct_14_s {i : Nat} {j : Nat} {k : Nat} {r2 : Nat → Int32} {q4 : Nat → Int32} {nn : Nat} {y3_14 : Int32} {f_14 : Nat → Nat → Int64} : D_X3_becomeProduct_14 i j k r2 q4 (nn + 1) y3_14 f_14 = (if (r2 (2 * i)) ≤ y3_14 then (r2, q4, f_14) else (D_X3_becomeProduct_25 i j k r2 q4 (D_X3_becomeProduct_14 i j k r2 q4 nn) y3_14 (gap (r2 (2 * i + 1)) 0 + 1) 0 f_14)) := rfl
noncomputable def D_X3_becomeProduct (r : Nat → Int32) (q : Nat → Int32) (f : Nat → Nat → Int64) (i : Nat) (j : Nat) (k : Nat) : (Nat → Int32) × (Nat → Int32) × (Nat → Nat → Int64) := bnd3 (D_X3_reshape r q f i (r (2 * j)) (r (2 * k + 1))) (fun (r2 : Nat → Int32) (q4 : Nat → Int32) (f6 : Nat → Nat → Int64) => (D_X3_becomeProduct_14 i j k r2 q4 (gap (r2 (2 * i)) 0 + 1) 0 f6))
theorem D_X3_becomeProduct_s {r : Nat → Int32} {q : Nat → Int32} {f : Nat → Nat → Int64} {i : Nat} {j : Nat} {k : Nat} : D_X3_becomeProduct r q f i j k = bnd3 (D_X3_reshape r q f i (r (2 * j)) (r (2 * k + 1))) (fun (r2 : Nat → Int32) (q4 : Nat → Int32) (f6 : Nat → Nat → Int64) => (D_X3_becomeProduct_14 i j k r2 q4 (gap (r2 (2 * i)) 0 + 1) 0 f6)) := rfl
set_option maxHeartbeats 4000000 in
set_option maxRecDepth 100000 in
theorem k_X3_becomeProduct (κ : Kt) (l : Launch) (a : Nat → Nat) (r q : Nat → Int32) (f : Nat → Nat → Int64) (i : Nat) (j : Nat) (k : Nat) (hi : i < 15) (hj : j < 15) (hk : k < 15) (o_r : Nat → Int32) (o_q : Nat → Int32) (o_f : Nat → Nat → Int64) (hR : D_X3_becomeProduct r q f i j k = (o_r, o_q, o_f)) : CM κ l yX3_becomeProduct cX3_becomeProduct 8 (none) 2 44 0 0 [.ref (a (6 + 2 * i)), .ref (a (6 + 2 * j)), .ref (a (6 + 2 * k))] (cw κ a r q f) (fun o w' => o = none ∧ (okr r → okr o_r) ∧ o_q 4 = q 4 ∧ w' = cw κ a o_r o_q o_f) := by
  refine CM_begin (plainFor_of_name (by decide)) (Nat.le_of_ble_eq_true rfl) ?_
  intro p e s m args below meth c A Q hX hnm hA3 hQ hB ls hl
  have hx := hX.1.1
  have hb := hX.1.2.1
  have hl : lv_has ls 8 [(0, .ref (a (6 + 2 * i))), (1, .ref (a (6 + 2 * j))), (2, .ref (a (6 + 2 * k)))] := hl
  replace hR := (D_X3_becomeProduct_s).symm.trans hR
  refine lv_aload_n hx hb dX3_becomeProduct_0 rfl (lv_at hl 0 rfl) ?_
  refine lv_aload_n hx hb dX3_becomeProduct_1 rfl (lv_at hl 1 rfl) ?_
  refine gf hX hB (cwG (i := j) hj) rfl in3 1 (by decide) wm_1_46 rfl rfl dX3_becomeProduct_2 ?_
  refine lv_aload_n hx hb dX3_becomeProduct_5 rfl (lv_at hl 2 rfl) ?_
  refine gf hX hB (cwG (i := k) hk) rfl in3 2 (by decide) wm_1_52 rfl rfl dX3_becomeProduct_6 ?_
  obtain ⟨r2, q4, f6, hd1⟩ := ex3 (D_X3_reshape r q f i (r (2 * j)) (r (2 * k + 1)))
  replace hR := bnd3_use hd1 hR
  refine call_V (n := 2) (As := [.int (r (2 * j)), .int (r (2 * k + 1))]) (rest := []) hX hB (k_X3_reshape κ l a r q f i (r (2 * j)) (r (2 * k + 1)) hi r2 q4 f6 hd1) ⟨rfl, by decide, by decide, by decide +kernel⟩ wm_1_212 wm_1_213 wm_1_214 wm_1_2 wm_1_215 ⟨Nat.le_of_ble_eq_true rfl, Nat.le_of_ble_eq_true rfl⟩ ⟨Nat.le_of_ble_eq_true rfl, Nat.le_of_ble_eq_true rfl⟩ (cwG (i := i) hi) rfl rfl rfl hl.1 rfl (Nat.le_of_ble_eq_true rfl) dX3_becomeProduct_9 (fun o w' H locs hp hB => ?_)
  obtain ⟨rfl, ho3, hq5, rfl⟩ := hp
  refine W.eq (g2 := F0 m 12 ls []) rfl ?_
  refine lv_iconst (v := 0) hx hb dX3_becomeProduct_12 (by decide) ?_
  refine lv_istore_n (lv' := [(3, .int 0), (0, .ref (a (6 + 2 * i))), (1, .ref (a (6 + 2 * j))), (2, .ref (a (6 + 2 * k)))]) hx hb dX3_becomeProduct_13 rfl hl (by decide) rfl (fun ls hl => ?_)
  have lp14 : ∀ (nn14 : Nat) (y3_14 : Int32) (f_14 : Nat → Nat → Int64) (H : Heap) (locs : List Loc), gap (r2 (2 * i)) y3_14 < nn14 → D_X3_becomeProduct_14 i j k r2 q4 nn14 y3_14 f_14 = (o_r, o_q, o_f) → Bd κ A s (cw κ a r2 q4 f_14) H locs → ∀ ls : Array Slot, lv_has ls 8 [(3, .int y3_14), (0, .ref (a (6 + 2 * i))), (1, .ref (a (6 + 2 * j))), (2, .ref (a (6 + 2 * k)))] → W p l e (Rm 2 44 0 0) s m args below meth c H locs 0 0 Q (F0 m 14 ls []) := by
    intro nn14
    induction nn14 with
    | zero => intro y3_14 f_14 H locs hμ; exact absurd hμ (Nat.not_lt_zero _)
    | succ nn14 ih14 =>
      intro y3_14 f_14 H locs hμ14 hR hB ls hl
      replace hR := (D_X3_becomeProduct_14_s).symm.trans hR
      refine lv_iload_n hx hb dX3_becomeProduct_14 rfl (lv_at hl 0 rfl) ?_
      refine lv_aload_n hx hb dX3_becomeProduct_15 rfl (lv_at hl 1 rfl) ?_
      refine gf hX hB (cwG (i := i) hi) rfl in3 1 (by decide) wm_1_46 rfl rfl dX3_becomeProduct_16 ?_
      refine lv_icmp_ge (tgt := 97) hx hb dX3_becomeProduct_19 (by decide) (fun c231 => ?_) (fun c231 => ?_)
      · replace hR := ifp c231 hR
        rw [← hQ]
        exact end_v hX hB hA3 rfl (by obtain ⟨rfl, rfl, rfl⟩ := pr3 hR; exact ⟨rfl, (fun h => ho3 ((fun h => h) h)), (hq5.trans rfl), rfl⟩) (Nat.le_of_ble_eq_true rfl) (Nat.le_of_ble_eq_true rfl) dX3_becomeProduct_97
      · replace hR := ifn c231 hR
        refine lv_iconst (v := 0) hx hb dX3_becomeProduct_22 (by decide) ?_
        refine lv_istore (lv' := [(4, .int 0), (3, .int y3_14), (0, .ref (a (6 + 2 * i))), (1, .ref (a (6 + 2 * j))), (2, .ref (a (6 + 2 * k)))]) hx hb dX3_becomeProduct_23 hl (by decide) rfl (fun ls hl => ?_)
        have lp25 : ∀ (nn25 : Nat) (y4_25 : Int32) (f_25 : Nat → Nat → Int64) (H : Heap) (locs : List Loc), gap (r2 (2 * i + 1)) y4_25 < nn25 → D_X3_becomeProduct_25 i j k r2 q4 (D_X3_becomeProduct_14 i j k r2 q4 nn14) y3_14 nn25 y4_25 f_25 = (o_r, o_q, o_f) → Bd κ A s (cw κ a r2 q4 f_25) H locs → ∀ ls : Array Slot, lv_has ls 8 [(4, .int y4_25), (3, .int y3_14), (0, .ref (a (6 + 2 * i))), (1, .ref (a (6 + 2 * j))), (2, .ref (a (6 + 2 * k)))] → W p l e (Rm 2 44 0 0) s m args below meth c H locs 0 0 Q (F0 m 25 ls []) := by
          intro nn25
          induction nn25 with
          | zero => intro y4_25 f_25 H locs hμ; exact absurd hμ (Nat.not_lt_zero _)
          | succ nn25 ih25 =>
            intro y4_25 f_25 H locs hμ25 hR hB ls hl
            replace hR := (D_X3_becomeProduct_25_s).symm.trans hR
            refine lv_iload hx hb dX3_becomeProduct_25 (lv_at hl 0 rfl) ?_
            refine lv_aload_n hx hb dX3_becomeProduct_27 rfl (lv_at hl 2 rfl) ?_
            refine gf hX hB (cwG (i := i) hi) rfl in3 2 (by decide) wm_1_52 rfl rfl dX3_becomeProduct_28 ?_
            refine lv_icmp_ge (tgt := 91) hx hb dX3_becomeProduct_31 (by decide) (fun c306 => ?_) (fun c306 => ?_)
            · replace hR := ifp c306 hR
              refine lv_iinc (v := y3_14 + 1) (lv' := [(3, .int (y3_14 + 1)), (4, .int y4_25), (0, .ref (a (6 + 2 * i))), (1, .ref (a (6 + 2 * j))), (2, .ref (a (6 + 2 * k)))]) hx hb dX3_becomeProduct_91 hl (k := 1) rfl rfl (by decide) rfl (fun ls hl => ?_)
              refine lv_goto (tgt := 14) hx hb dX3_becomeProduct_94 (by decide) ?_
              exact ih14 (y3_14 + 1) f_25 _ _  (gap_step c231 hμ14) hR hB _ (lv_sub hl [0, 2, 3, 4] rfl)
            · replace hR := ifn c306 hR
              refine lv_lconst (v := 0) hx hb dX3_becomeProduct_34 (by decide) ?_
              refine lv_lstore (lv' := [(5, .long 0), (4, .int y4_25), (3, .int y3_14), (0, .ref (a (6 + 2 * i))), (1, .ref (a (6 + 2 * j))), (2, .ref (a (6 + 2 * k)))]) hx hb dX3_becomeProduct_35 hl (by decide) rfl (fun ls hl => ?_)
              refine lv_iconst (v := 0) hx hb dX3_becomeProduct_37 (by decide) ?_
              refine lv_istore (lv' := [(7, .int 0), (5, .long 0), (4, .int y4_25), (3, .int y3_14), (0, .ref (a (6 + 2 * i))), (1, .ref (a (6 + 2 * j))), (2, .ref (a (6 + 2 * k)))]) hx hb dX3_becomeProduct_38 hl (by decide) rfl (fun ls hl => ?_)
              have lp40 : ∀ (nn40 : Nat) (y7_40 : Int32) (y5_40 : Int64) (H : Heap) (locs : List Loc), gap (r2 (2 * j + 1)) y7_40 < nn40 → D_X3_becomeProduct_40 i j k r2 q4 y3_14 (D_X3_becomeProduct_25 i j k r2 q4 (D_X3_becomeProduct_14 i j k r2 q4 nn14) y3_14 nn25) y4_25 f_25 nn40 y7_40 y5_40 = (o_r, o_q, o_f) → Bd κ A s (cw κ a r2 q4 f_25) H locs → ∀ ls : Array Slot, lv_has ls 8 [(7, .int y7_40), (5, .long y5_40), (4, .int y4_25), (3, .int y3_14), (0, .ref (a (6 + 2 * i))), (1, .ref (a (6 + 2 * j))), (2, .ref (a (6 + 2 * k)))] → W p l e (Rm 2 44 0 0) s m args below meth c H locs 0 0 Q (F0 m 40 ls []) := by
                intro nn40
                induction nn40 with
                | zero => intro y7_40 y5_40 H locs hμ; exact absurd hμ (Nat.not_lt_zero _)
                | succ nn40 ih40 =>
                  intro y7_40 y5_40 H locs hμ40 hR hB ls hl
                  replace hR := (D_X3_becomeProduct_40_s).symm.trans hR
                  refine lv_iload hx hb dX3_becomeProduct_40 (lv_at hl 0 rfl) ?_
                  refine lv_aload_n hx hb dX3_becomeProduct_42 rfl (lv_at hl 5 rfl) ?_
                  refine gf hX hB (cwG (i := j) hj) rfl in3 2 (by decide) wm_1_52 rfl rfl dX3_becomeProduct_43 ?_
                  refine lv_icmp_ge (tgt := 76) hx hb dX3_becomeProduct_46 (by decide) (fun c336 => ?_) (fun c336 => ?_)
                  · replace hR := ifp c336 hR
                    refine lv_aload_n hx hb dX3_becomeProduct_76 rfl (lv_at hl 4 rfl) ?_
                    refine lv_iload_n hx hb dX3_becomeProduct_77 rfl (lv_at hl 3 rfl) ?_
                    refine lv_iload hx hb dX3_becomeProduct_78 (lv_at hl 2 rfl) ?_
                    refine lv_lload hx hb dX3_becomeProduct_80 (lv_at hl 1 rfl) ?_
                    obtain ⟨f338, hd337⟩ := ex1 (D_X3_set r2 q4 f_25 i y3_14 y4_25 y5_40)
                    replace hR := bnd1_use hd337 hR
                    refine call_V (n := 3) (As := [.int y3_14, .int y4_25, .long y5_40]) (rest := []) hX hB (k_X3_set κ l a r2 q4 f_25 i y3_14 y4_25 y5_40 hi f338 hd337) ⟨rfl, by decide, by decide, by decide +kernel⟩ wm_1_222 wm_1_223 wm_1_224 wm_1_2 wm_1_225 ⟨Nat.le_of_ble_eq_true rfl, Nat.le_of_ble_eq_true rfl⟩ ⟨Nat.le_of_ble_eq_true rfl, Nat.le_of_ble_eq_true rfl⟩ (cwG (i := i) hi) rfl rfl rfl hl.1 rfl (Nat.le_of_ble_eq_true rfl) dX3_becomeProduct_82 (fun o w' H locs hp hB => ?_)
                    obtain ⟨rfl, rfl⟩ := hp
                    refine W.eq (g2 := F0 m 85 ls []) rfl ?_
                    refine lv_iinc (v := y4_25 + 1) (lv' := [(4, .int (y4_25 + 1)), (7, .int y7_40), (5, .long y5_40), (3, .int y3_14), (0, .ref (a (6 + 2 * i))), (1, .ref (a (6 + 2 * j))), (2, .ref (a (6 + 2 * k)))]) hx hb dX3_becomeProduct_85 hl (k := 2) rfl rfl (by decide) rfl (fun ls hl => ?_)
                    refine lv_goto (tgt := 25) hx hb dX3_becomeProduct_88 (by decide) ?_
                    exact ih25 (y4_25 + 1) f338 _ _  (gap_step c306 hμ25) hR hB _ (lv_sub hl [0, 3, 4, 5, 6] rfl)
                  · replace hR := ifn c336 hR
                    refine lv_lload hx hb dX3_becomeProduct_49 (lv_at hl 1 rfl) ?_
                    refine lv_aload_n hx hb dX3_becomeProduct_51 rfl (lv_at hl 5 rfl) ?_
                    refine lv_iload_n hx hb dX3_becomeProduct_52 rfl (lv_at hl 3 rfl) ?_
                    refine lv_iload hx hb dX3_becomeProduct_53 (lv_at hl 0 rfl) ?_
                    obtain ⟨x340, hd339⟩ := ex1 (D_X3_get r2 q4 f_25 j y3_14 y7_40)
                    replace hR := bnd1_use hd339 hR
                    refine call_V (n := 2) (As := [.int y3_14, .int y7_40]) (rest := [.long y5_40]) hX hB (k_X3_get κ l a r2 q4 f_25 j y3_14 y7_40 hj x340 hd339) ⟨rfl, by decide, by decide, by decide +kernel⟩ wm_2_7 wm_1_187 wm_1_188 wm_1_2 wm_1_189 ⟨Nat.le_of_ble_eq_true rfl, Nat.le_of_ble_eq_true rfl⟩ ⟨Nat.le_of_ble_eq_true rfl, Nat.le_of_ble_eq_true rfl⟩ (cwG (i := j) hj) rfl rfl rfl hl.1 rfl (Nat.le_of_ble_eq_true rfl) dX3_becomeProduct_55 (fun o w' H locs hp hB => ?_)
                    obtain ⟨rfl, rfl⟩ := hp
                    refine W.eq (g2 := F0 m 58 ls [.long x340, .long y5_40]) rfl ?_
                    refine lv_aload_n hx hb dX3_becomeProduct_58 rfl (lv_at hl 6 rfl) ?_
                    refine lv_iload hx hb dX3_becomeProduct_59 (lv_at hl 0 rfl) ?_
                    refine lv_iload hx hb dX3_becomeProduct_61 (lv_at hl 2 rfl) ?_
                    obtain ⟨x342, hd341⟩ := ex1 (D_X3_get r2 q4 f_25 k y7_40 y4_25)
                    replace hR := bnd1_use hd341 hR
                    refine call_V (n := 2) (As := [.int y7_40, .int y4_25]) (rest := [.long x340, .long y5_40]) hX hB (k_X3_get κ l a r2 q4 f_25 k y7_40 y4_25 hk x342 hd341) ⟨rfl, by decide, by decide, by decide +kernel⟩ wm_2_7 wm_1_187 wm_1_188 wm_1_2 wm_1_189 ⟨Nat.le_of_ble_eq_true rfl, Nat.le_of_ble_eq_true rfl⟩ ⟨Nat.le_of_ble_eq_true rfl, Nat.le_of_ble_eq_true rfl⟩ (cwG (i := k) hk) rfl rfl rfl hl.1 rfl (Nat.le_of_ble_eq_true rfl) dX3_becomeProduct_63 (fun o w' H locs hp hB => ?_)
                    obtain ⟨rfl, rfl⟩ := hp
                    refine W.eq (g2 := F0 m 66 ls [.long x342, .long x340, .long y5_40]) rfl ?_
                    refine lv_lmul hx hb dX3_becomeProduct_66 ?_
                    refine lv_ladd hx hb dX3_becomeProduct_67 ?_
                    refine lv_lstore (lv' := [(5, .long (y5_40 + (x340 * x342))), (7, .int y7_40), (4, .int y4_25), (3, .int y3_14), (0, .ref (a (6 + 2 * i))), (1, .ref (a (6 + 2 * j))), (2, .ref (a (6 + 2 * k)))]) hx hb dX3_becomeProduct_68 hl (by decide) rfl (fun ls hl => ?_)
                    refine lv_iinc (v := y7_40 + 1) (lv' := [(7, .int (y7_40 + 1)), (5, .long (y5_40 + (x340 * x342))), (4, .int y4_25), (3, .int y3_14), (0, .ref (a (6 + 2 * i))), (1, .ref (a (6 + 2 * j))), (2, .ref (a (6 + 2 * k)))]) hx hb dX3_becomeProduct_70 hl (k := 1) rfl rfl (by decide) rfl (fun ls hl => ?_)
                    refine lv_goto (tgt := 40) hx hb dX3_becomeProduct_73 (by decide) ?_
                    exact ih40 (y7_40 + 1) (y5_40 + (x340 * x342)) _ _  (gap_step c336 hμ40) hR hB _ hl
              exact lp40 _ 0 0 _ _  (Nat.lt_succ_self _) hR hB _ hl
        exact lp25 _ 0 f_14 _ _  (Nat.lt_succ_self _) hR hB _ hl
  exact lp14 _ 0 f6 _ _  (Nat.lt_succ_self _) hR hB _ hl
noncomputable def D_X3_exchangeLines_j48 (r : Nat → Int32) (q : Nat → Int32) (i : Nat) (p0 : Int32) (p1 : Int32) (p2 : Int32) (lb20 : Int32 → (Nat → Nat → Int64) → (Nat → Nat → Int64)) (y5_20 : Int32) (f_20 : Nat → Nat → Int64) (z0_48 : Int64) : (Nat → Nat → Int64) := (if p0 = 0 then bnd1 (D_X3_get r q f_20 i p2 y5_20) (fun (x58 : Int64) => bnd1 (D_X3_set r q f_20 i p1 y5_20 x58) (fun (f60 : Nat → Nat → Int64) => bnd1 (D_X3_set r q f60 i p2 y5_20 z0_48) (fun (f62 : Nat → Nat → Int64) => (lb20 (y5_20 + 1) f62)))) else bnd1 (D_X3_get r q f_20 i y5_20 p2) (fun (x64 : Int64) => bnd1 (D_X3_set r q f_20 i y5_20 p1 x64) (fun (f66 : Nat → Nat → Int64) => bnd1 (D_X3_set r q f66 i y5_20 p2 z0_48) (fun (f68 : Nat → Nat → Int64) => (lb20 (y5_20 + 1) f68)))))
theorem D_X3_exchangeLines_j48_s {r : Nat → Int32} {q : Nat → Int32} {i : Nat} {p0 : Int32} {p1 : Int32} {p2 : Int32} {lb20 : Int32 → (Nat → Nat → Int64) → (Nat → Nat → Int64)} {y5_20 : Int32} {f_20 : Nat → Nat → Int64} {z0_48 : Int64} : D_X3_exchangeLines_j48 r q i p0 p1 p2 lb20 y5_20 f_20 z0_48 = (if p0 = 0 then bnd1 (D_X3_get r q f_20 i p2 y5_20) (fun (x58 : Int64) => bnd1 (D_X3_set r q f_20 i p1 y5_20 x58) (fun (f60 : Nat → Nat → Int64) => bnd1 (D_X3_set r q f60 i p2 y5_20 z0_48) (fun (f62 : Nat → Nat → Int64) => (lb20 (y5_20 + 1) f62)))) else bnd1 (D_X3_get r q f_20 i y5_20 p2) (fun (x64 : Int64) => bnd1 (D_X3_set r q f_20 i y5_20 p1 x64) (fun (f66 : Nat → Nat → Int64) => bnd1 (D_X3_set r q f66 i y5_20 p2 z0_48) (fun (f68 : Nat → Nat → Int64) => (lb20 (y5_20 + 1) f68))))) := rfl
noncomputable def D_X3_exchangeLines_20 (r : Nat → Int32) (q : Nat → Int32) (i : Nat) (p0 : Int32) (p1 : Int32) (p2 : Int32) (nn : Nat) : Int32 → (Nat → Nat → Int64) → (Nat → Nat → Int64) := @Nat.rec (fun _ => Int32 → (Nat → Nat → Int64) → (Nat → Nat → Int64)) (fun _ _ => default) (fun _ lb20 (y5_20 : Int32) (f_20 : Nat → Nat → Int64) => (if (r (2 * i + 1)) ≤ y5_20 then f_20 else (if p0 = 0 then bnd1 (D_X3_get r q f_20 i p1 y5_20) (fun (x71 : Int64) => (D_X3_exchangeLines_j48 r q i p0 p1 p2 lb20 y5_20 f_20 x71)) else bnd1 (D_X3_get r q f_20 i y5_20 p1) (fun (x73 : Int64) => (D_X3_exchangeLines_j48 r q i p0 p1 p2 lb20 y5_20 f_20 x73))))) nn
theorem D_X3_exchangeLines_20_s {r : Nat → Int32} {q : Nat → Int32} {i : Nat} {p0 : Int32} {p1 : Int32} {p2 : Int32} {nn : Nat} {y5_20 : Int32} {f_20 : Nat → Nat → Int64} : D_X3_exchangeLines_20 r q i p0 p1 p2 (nn + 1) y5_20 f_20 = (if (r (2 * i + 1)) ≤ y5_20 then f_20 else (if p0 = 0 then bnd1 (D_X3_get r q f_20 i p1 y5_20) (fun (x71 : Int64) => (D_X3_exchangeLines_j48 r q i p0 p1 p2 (D_X3_exchangeLines_20 r q i p0 p1 p2 nn) y5_20 f_20 x71)) else bnd1 (D_X3_get r q f_20 i y5_20 p1) (fun (x73 : Int64) => (D_X3_exchangeLines_j48 r q i p0 p1 p2 (D_X3_exchangeLines_20 r q i p0 p1 p2 nn) y5_20 f_20 x73)))) := rfl
noncomputable def D_X3_exchangeLines_j48_1 (r : Nat → Int32) (q : Nat → Int32) (i : Nat) (p0 : Int32) (p1 : Int32) (p2 : Int32) (y5_20 : Int32) (f_20 : Nat → Nat → Int64) (lb20 : Int32 → (Nat → Nat → Int64) → (Nat → Nat → Int64)) (z0_48 : Int64) : (Nat → Nat → Int64) := (if p0 = 0 then bnd1 (D_X3_get r q f_20 i p2 y5_20) (fun (x130 : Int64) => bnd1 (D_X3_set r q f_20 i p1 y5_20 x130) (fun (f132 : Nat → Nat → Int64) => bnd1 (D_X3_set r q f132 i p2 y5_20 z0_48) (fun (f134 : Nat → Nat → Int64) => (lb20 (y5_20 + 1) f134)))) else bnd1 (D_X3_get r q f_20 i y5_20 p2) (fun (x136 : Int64) => bnd1 (D_X3_set r q f_20 i y5_20 p1 x136) (fun (f138 : Nat → Nat → Int64) => bnd1 (D_X3_set r q f138 i y5_20 p2 z0_48) (fun (f140 : Nat → Nat → Int64) => (lb20 (y5_20 + 1) f140)))))
theorem D_X3_exchangeLines_j48_1_s {r : Nat → Int32} {q : Nat → Int32} {i : Nat} {p0 : Int32} {p1 : Int32} {p2 : Int32} {y5_20 : Int32} {f_20 : Nat → Nat → Int64} {lb20 : Int32 → (Nat → Nat → Int64) → (Nat → Nat → Int64)} {z0_48 : Int64} : D_X3_exchangeLines_j48_1 r q i p0 p1 p2 y5_20 f_20 lb20 z0_48 = (if p0 = 0 then bnd1 (D_X3_get r q f_20 i p2 y5_20) (fun (x130 : Int64) => bnd1 (D_X3_set r q f_20 i p1 y5_20 x130) (fun (f132 : Nat → Nat → Int64) => bnd1 (D_X3_set r q f132 i p2 y5_20 z0_48) (fun (f134 : Nat → Nat → Int64) => (lb20 (y5_20 + 1) f134)))) else bnd1 (D_X3_get r q f_20 i y5_20 p2) (fun (x136 : Int64) => bnd1 (D_X3_set r q f_20 i y5_20 p1 x136) (fun (f138 : Nat → Nat → Int64) => bnd1 (D_X3_set r q f138 i y5_20 p2 z0_48) (fun (f140 : Nat → Nat → Int64) => (lb20 (y5_20 + 1) f140))))) := rfl
noncomputable def D_X3_exchangeLines_20_1 (r : Nat → Int32) (q : Nat → Int32) (i : Nat) (p0 : Int32) (p1 : Int32) (p2 : Int32) (nn : Nat) : Int32 → (Nat → Nat → Int64) → (Nat → Nat → Int64) := @Nat.rec (fun _ => Int32 → (Nat → Nat → Int64) → (Nat → Nat → Int64)) (fun _ _ => default) (fun _ lb20 (y5_20 : Int32) (f_20 : Nat → Nat → Int64) => (if (r (2 * i)) ≤ y5_20 then f_20 else (if p0 = 0 then bnd1 (D_X3_get r q f_20 i p1 y5_20) (fun (x143 : Int64) => (D_X3_exchangeLines_j48_1 r q i p0 p1 p2 y5_20 f_20 lb20 x143)) else bnd1 (D_X3_get r q f_20 i y5_20 p1) (fun (x145 : Int64) => (D_X3_exchangeLines_j48_1 r q i p0 p1 p2 y5_20 f_20 lb20 x145))))) nn
theorem D_X3_exchangeLines_20_1_s {r : Nat → Int32} {q : Nat → Int32} {i : Nat} {p0 : Int32} {p1 : Int32} {p2 : Int32} {nn : Nat} {y5_20 : Int32} {f_20 : Nat → Nat → Int64} : D_X3_exchangeLines_20_1 r q i p0 p1 p2 (nn + 1) y5_20 f_20 = (if (r (2 * i)) ≤ y5_20 then f_20 else (if p0 = 0 then bnd1 (D_X3_get r q f_20 i p1 y5_20) (fun (x143 : Int64) => (D_X3_exchangeLines_j48_1 r q i p0 p1 p2 y5_20 f_20 (D_X3_exchangeLines_20_1 r q i p0 p1 p2 nn) x143)) else bnd1 (D_X3_get r q f_20 i y5_20 p1) (fun (x145 : Int64) => (D_X3_exchangeLines_j48_1 r q i p0 p1 p2 y5_20 f_20 (D_X3_exchangeLines_20_1 r q i p0 p1 p2 nn) x145)))) := rfl
noncomputable def D_X3_exchangeLines (r : Nat → Int32) (q : Nat → Int32) (f : Nat → Nat → Int64) (i : Nat) (p0 : Int32) (p1 : Int32) (p2 : Int32) : (Nat → Nat → Int64) := (if p0 = 0 then (D_X3_exchangeLines_20 r q i p0 p1 p2 (gap (r (2 * i + 1)) 0 + 1) 0 f) else (D_X3_exchangeLines_20_1 r q i p0 p1 p2 (gap (r (2 * i)) 0 + 1) 0 f))
theorem D_X3_exchangeLines_s {r : Nat → Int32} {q : Nat → Int32} {f : Nat → Nat → Int64} {i : Nat} {p0 : Int32} {p1 : Int32} {p2 : Int32} : D_X3_exchangeLines r q f i p0 p1 p2 = (if p0 = 0 then (D_X3_exchangeLines_20 r q i p0 p1 p2 (gap (r (2 * i + 1)) 0 + 1) 0 f) else (D_X3_exchangeLines_20_1 r q i p0 p1 p2 (gap (r (2 * i)) 0 + 1) 0 f)) := rfl
set_option maxHeartbeats 4000000 in
set_option maxRecDepth 100000 in
theorem k_X3_exchangeLines (κ : Kt) (l : Launch) (a : Nat → Nat) (r q : Nat → Int32) (f : Nat → Nat → Int64) (i : Nat) (p0 : Int32) (p1 : Int32) (p2 : Int32) (hi : i < 15) (o_f : Nat → Nat → Int64) (hR : D_X3_exchangeLines r q f i p0 p1 p2 = o_f) : CM κ l yX3_exchangeLines cX3_exchangeLines 8 (none) 1 24 0 0 [.ref (a (6 + 2 * i)), .int p0, .int p1, .int p2] (cw κ a r q f) (fun o w' => o = none ∧ w' = cw κ a r q o_f) := by
  refine CM_begin (plainFor_of_name (by decide)) (Nat.le_of_ble_eq_true rfl) ?_
  intro p e s m args below meth c A Q hX hnm hA3 hQ hB ls hl
  have hx := hX.1.1
  have hb := hX.1.2.1
  have hl : lv_has ls 8 [(0, .ref (a (6 + 2 * i))), (1, .int p0), (2, .int p1), (3, .int p2)] := hl
  replace hR := (D_X3_exchangeLines_s).symm.trans hR
  refine lv_iload_n hx hb dX3_exchangeLines_0 rfl (lv_at hl 1 rfl) ?_
  refine lv_if_eq (tgt := 11) hx hb dX3_exchangeLines_1 (by decide) (fun c1 => ?_) (fun c1 => ?_)
  · replace hR := ifp c1 hR
    refine lv_aload_n hx hb dX3_exchangeLines_11 rfl (lv_at hl 0 rfl) ?_
    refine gf hX hB (cwG (i := i) hi) rfl in3 2 (by decide) wm_1_52 rfl rfl dX3_exchangeLines_12 ?_
    refine lv_istore (lv' := [(4, .int (r (2 * i + 1))), (0, .ref (a (6 + 2 * i))), (1, .int p0), (2, .int p1), (3, .int p2)]) hx hb dX3_exchangeLines_15 hl (by decide) rfl (fun ls hl => ?_)
    refine lv_iconst (v := 0) hx hb dX3_exchangeLines_17 (by decide) ?_
    refine lv_istore (lv' := [(5, .int 0), (4, .int (r (2 * i + 1))), (0, .ref (a (6 + 2 * i))), (1, .int p0), (2, .int p1), (3, .int p2)]) hx hb dX3_exchangeLines_18 hl (by decide) rfl (fun ls hl => ?_)
    have lp20 : ∀ (nn20 : Nat) (y5_20 : Int32) (f_20 : Nat → Nat → Int64) (H : Heap) (locs : List Loc), gap (r (2 * i + 1)) y5_20 < nn20 → D_X3_exchangeLines_20 r q i p0 p1 p2 nn20 y5_20 f_20 = o_f → Bd κ A s (cw κ a r q f_20) H locs → ∀ ls : Array Slot, lv_has ls 8 [(5, .int y5_20), (4, .int (r (2 * i + 1))), (0, .ref (a (6 + 2 * i))), (1, .int p0), (2, .int p1), (3, .int p2)] → W p l e (Rm 1 24 0 0) s m args below meth c H locs 0 0 Q (F0 m 20 ls []) := by
      intro nn20
      induction nn20 with
      | zero => intro y5_20 f_20 H locs hμ; exact absurd hμ (Nat.not_lt_zero _)
      | succ nn20 ih20 =>
        intro y5_20 f_20 H locs hμ20 hR hB ls hl
        replace hR := (D_X3_exchangeLines_20_s).symm.trans hR
        refine lv_iload hx hb dX3_exchangeLines_20 (lv_at hl 0 rfl) ?_
        refine lv_iload hx hb dX3_exchangeLines_22 (lv_at hl 1 rfl) ?_
        refine lv_icmp_ge (tgt := 109) hx hb dX3_exchangeLines_24 (by decide) (fun c50 => ?_) (fun c50 => ?_)
        · replace hR := ifp c50 hR
          rw [← hQ]
          exact end_v hX hB hA3 rfl (by obtain rfl := hR; exact ⟨rfl, rfl⟩) (Nat.le_of_ble_eq_true rfl) (Nat.le_of_ble_eq_true rfl) dX3_exchangeLines_109
        · replace hR := ifn c50 hR
          refine lv_iload_n hx hb dX3_exchangeLines_27 rfl (lv_at hl 3 rfl) ?_
          have jn48 : ∀ (z0_48 : Int64) (H : Heap) (locs : List Loc), D_X3_exchangeLines_j48 r q i p0 p1 p2 (D_X3_exchangeLines_20 r q i p0 p1 p2 nn20) y5_20 f_20 z0_48 = o_f → Bd κ A s (cw κ a r q f_20) H locs → ∀ ls : Array Slot, lv_has ls 8 [(5, .int y5_20), (4, .int (r (2 * i + 1))), (0, .ref (a (6 + 2 * i))), (1, .int p0), (2, .int p1), (3, .int p2)] → W p l e (Rm 1 24 0 0) s m args below meth c H locs 0 0 Q (F0 m 48 ls [.long z0_48]) := by
            intro z0_48 H locs hR hB ls hl
            replace hR := (D_X3_exchangeLines_j48_s).symm.trans hR
            refine lv_lstore (lv' := [(6, .long z0_48), (5, .int y5_20), (4, .int (r (2 * i + 1))), (0, .ref (a (6 + 2 * i))), (1, .int p0), (2, .int p1), (3, .int p2)]) hx hb dX3_exchangeLines_48 hl (by decide) rfl (fun ls hl => ?_)
            refine lv_iload_n hx hb dX3_exchangeLines_50 rfl (lv_at hl 4 rfl) ?_
            refine lv_if_eq (tgt := 80) hx hb dX3_exchangeLines_51 (by decide) (fun c56 => ?_) (fun c56 => ?_)
            · replace hR := ifp c56 hR
              refine lv_aload_n hx hb dX3_exchangeLines_80 rfl (lv_at hl 3 rfl) ?_
              refine lv_iload_n hx hb dX3_exchangeLines_81 rfl (lv_at hl 5 rfl) ?_
              refine lv_iload hx hb dX3_exchangeLines_82 (lv_at hl 1 rfl) ?_
              refine lv_aload_n hx hb dX3_exchangeLines_84 rfl (lv_at hl 3 rfl) ?_
              refine lv_iload_n hx hb dX3_exchangeLines_85 rfl (lv_at hl 6 rfl) ?_
              refine lv_iload hx hb dX3_exchangeLines_86 (lv_at hl 1 rfl) ?_
              obtain ⟨x58, hd57⟩ := ex1 (D_X3_get r q f_20 i p2 y5_20)
              replace hR := bnd1_use hd57 hR
              refine call_V (n := 2) (As := [.int p2, .int y5_20]) (rest := [.int y5_20, .int p1, .ref (a (6 + 2 * i))]) hX hB (k_X3_get κ l a r q f_20 i p2 y5_20 hi x58 hd57) ⟨rfl, by decide, by decide, by decide +kernel⟩ wm_2_7 wm_1_187 wm_1_188 wm_1_2 wm_1_189 ⟨Nat.le_of_ble_eq_true rfl, Nat.le_of_ble_eq_true rfl⟩ ⟨Nat.le_of_ble_eq_true rfl, Nat.le_of_ble_eq_true rfl⟩ (cwG (i := i) hi) rfl rfl rfl hl.1 rfl (Nat.le_of_ble_eq_true rfl) dX3_exchangeLines_88 (fun o w' H locs hp hB => ?_)
              obtain ⟨rfl, rfl⟩ := hp
              refine W.eq (g2 := F0 m 91 ls [.long x58, .int y5_20, .int p1, .ref (a (6 + 2 * i))]) rfl ?_
              obtain ⟨f60, hd59⟩ := ex1 (D_X3_set r q f_20 i p1 y5_20 x58)
              replace hR := bnd1_use hd59 hR
              refine call_V (n := 3) (As := [.int p1, .int y5_20, .long x58]) (rest := []) hX hB (k_X3_set κ l a r q f_20 i p1 y5_20 x58 hi f60 hd59) ⟨rfl, by decide, by decide, by decide +kernel⟩ wm_1_222 wm_1_223 wm_1_224 wm_1_2 wm_1_225 ⟨Nat.le_of_ble_eq_true rfl, Nat.le_of_ble_eq_true rfl⟩ ⟨Nat.le_of_ble_eq_true rfl, Nat.le_of_ble_eq_true rfl⟩ (cwG (i := i) hi) rfl rfl rfl hl.1 rfl (Nat.le_of_ble_eq_true rfl) dX3_exchangeLines_91 (fun o w' H locs hp hB => ?_)
              obtain ⟨rfl, rfl⟩ := hp
              refine W.eq (g2 := F0 m 94 ls []) rfl ?_
              refine lv_aload_n hx hb dX3_exchangeLines_94 rfl (lv_at hl 3 rfl) ?_
              refine lv_iload_n hx hb dX3_exchangeLines_95 rfl (lv_at hl 6 rfl) ?_
              refine lv_iload hx hb dX3_exchangeLines_96 (lv_at hl 1 rfl) ?_
              refine lv_lload hx hb dX3_exchangeLines_98 (lv_at hl 0 rfl) ?_
              obtain ⟨f62, hd61⟩ := ex1 (D_X3_set r q f60 i p2 y5_20 z0_48)
              replace hR := bnd1_use hd61 hR
              refine call_V (n := 3) (As := [.int p2, .int y5_20, .long z0_48]) (rest := []) hX hB (k_X3_set κ l a r q f60 i p2 y5_20 z0_48 hi f62 hd61) ⟨rfl, by decide, by decide, by decide +kernel⟩ wm_1_222 wm_1_223 wm_1_224 wm_1_2 wm_1_225 ⟨Nat.le_of_ble_eq_true rfl, Nat.le_of_ble_eq_true rfl⟩ ⟨Nat.le_of_ble_eq_true rfl, Nat.le_of_ble_eq_true rfl⟩ (cwG (i := i) hi) rfl rfl rfl hl.1 rfl (Nat.le_of_ble_eq_true rfl) dX3_exchangeLines_100 (fun o w' H locs hp hB => ?_)
              obtain ⟨rfl, rfl⟩ := hp
              refine W.eq (g2 := F0 m 103 ls []) rfl ?_
              refine lv_iinc (v := y5_20 + 1) (lv' := [(5, .int (y5_20 + 1)), (6, .long z0_48), (4, .int (r (2 * i + 1))), (0, .ref (a (6 + 2 * i))), (1, .int p0), (2, .int p1), (3, .int p2)]) hx hb dX3_exchangeLines_103 hl (k := 1) rfl rfl (by decide) rfl (fun ls hl => ?_)
              refine lv_goto (tgt := 20) hx hb dX3_exchangeLines_106 (by decide) ?_
              exact ih20 (y5_20 + 1) f62 _ _  (gap_step c50 hμ20) hR hB _ (lv_sub hl [0, 2, 3, 4, 5, 6] rfl)
            · replace hR := ifn c56 hR
              refine lv_aload_n hx hb dX3_exchangeLines_54 rfl (lv_at hl 3 rfl) ?_
              refine lv_iload hx hb dX3_exchangeLines_55 (lv_at hl 1 rfl) ?_
              refine lv_iload_n hx hb dX3_exchangeLines_57 rfl (lv_at hl 5 rfl) ?_
              refine lv_aload_n hx hb dX3_exchangeLines_58 rfl (lv_at hl 3 rfl) ?_
              refine lv_iload hx hb dX3_exchangeLines_59 (lv_at hl 1 rfl) ?_
              refine lv_iload_n hx hb dX3_exchangeLines_61 rfl (lv_at hl 6 rfl) ?_
              obtain ⟨x64, hd63⟩ := ex1 (D_X3_get r q f_20 i y5_20 p2)
              replace hR := bnd1_use hd63 hR
              refine call_V (n := 2) (As := [.int y5_20, .int p2]) (rest := [.int p1, .int y5_20, .ref (a (6 + 2 * i))]) hX hB (k_X3_get κ l a r q f_20 i y5_20 p2 hi x64 hd63) ⟨rfl, by decide, by decide, by decide +kernel⟩ wm_2_7 wm_1_187 wm_1_188 wm_1_2 wm_1_189 ⟨Nat.le_of_ble_eq_true rfl, Nat.le_of_ble_eq_true rfl⟩ ⟨Nat.le_of_ble_eq_true rfl, Nat.le_of_ble_eq_true rfl⟩ (cwG (i := i) hi) rfl rfl rfl hl.1 rfl (Nat.le_of_ble_eq_true rfl) dX3_exchangeLines_62 (fun o w' H locs hp hB => ?_)
              obtain ⟨rfl, rfl⟩ := hp
              refine W.eq (g2 := F0 m 65 ls [.long x64, .int p1, .int y5_20, .ref (a (6 + 2 * i))]) rfl ?_
              obtain ⟨f66, hd65⟩ := ex1 (D_X3_set r q f_20 i y5_20 p1 x64)
              replace hR := bnd1_use hd65 hR
              refine call_V (n := 3) (As := [.int y5_20, .int p1, .long x64]) (rest := []) hX hB (k_X3_set κ l a r q f_20 i y5_20 p1 x64 hi f66 hd65) ⟨rfl, by decide, by decide, by decide +kernel⟩ wm_1_222 wm_1_223 wm_1_224 wm_1_2 wm_1_225 ⟨Nat.le_of_ble_eq_true rfl, Nat.le_of_ble_eq_true rfl⟩ ⟨Nat.le_of_ble_eq_true rfl, Nat.le_of_ble_eq_true rfl⟩ (cwG (i := i) hi) rfl rfl rfl hl.1 rfl (Nat.le_of_ble_eq_true rfl) dX3_exchangeLines_65 (fun o w' H locs hp hB => ?_)
              obtain ⟨rfl, rfl⟩ := hp
              refine W.eq (g2 := F0 m 68 ls []) rfl ?_
              refine lv_aload_n hx hb dX3_exchangeLines_68 rfl (lv_at hl 3 rfl) ?_
              refine lv_iload hx hb dX3_exchangeLines_69 (lv_at hl 1 rfl) ?_
              refine lv_iload_n hx hb dX3_exchangeLines_71 rfl (lv_at hl 6 rfl) ?_
              refine lv_lload hx hb dX3_exchangeLines_72 (lv_at hl 0 rfl) ?_
              obtain ⟨f68, hd67⟩ := ex1 (D_X3_set r q f66 i y5_20 p2 z0_48)
              replace hR := bnd1_use hd67 hR
              refine call_V (n := 3) (As := [.int y5_20, .int p2, .long z0_48]) (rest := []) hX hB (k_X3_set κ l a r q f66 i y5_20 p2 z0_48 hi f68 hd67) ⟨rfl, by decide, by decide, by decide +kernel⟩ wm_1_222 wm_1_223 wm_1_224 wm_1_2 wm_1_225 ⟨Nat.le_of_ble_eq_true rfl, Nat.le_of_ble_eq_true rfl⟩ ⟨Nat.le_of_ble_eq_true rfl, Nat.le_of_ble_eq_true rfl⟩ (cwG (i := i) hi) rfl rfl rfl hl.1 rfl (Nat.le_of_ble_eq_true rfl) dX3_exchangeLines_74 (fun o w' H locs hp hB => ?_)
              obtain ⟨rfl, rfl⟩ := hp
              refine W.eq (g2 := F0 m 77 ls []) rfl ?_
              refine lv_goto (tgt := 103) hx hb dX3_exchangeLines_77 (by decide) ?_
              refine lv_iinc (v := y5_20 + 1) (lv' := [(5, .int (y5_20 + 1)), (6, .long z0_48), (4, .int (r (2 * i + 1))), (0, .ref (a (6 + 2 * i))), (1, .int p0), (2, .int p1), (3, .int p2)]) hx hb dX3_exchangeLines_103 hl (k := 1) rfl rfl (by decide) rfl (fun ls hl => ?_)
              refine lv_goto (tgt := 20) hx hb dX3_exchangeLines_106 (by decide) ?_
              exact ih20 (y5_20 + 1) f68 _ _  (gap_step c50 hμ20) hR hB _ (lv_sub hl [0, 2, 3, 4, 5, 6] rfl)
          refine lv_if_eq (tgt := 41) hx hb dX3_exchangeLines_28 (by decide) (fun c69 => ?_) (fun c69 => ?_)
          · replace hR := ifp c69 hR
            refine lv_aload_n hx hb dX3_exchangeLines_41 rfl (lv_at hl 2 rfl) ?_
            refine lv_iload_n hx hb dX3_exchangeLines_42 rfl (lv_at hl 4 rfl) ?_
            refine lv_iload hx hb dX3_exchangeLines_43 (lv_at hl 0 rfl) ?_
            obtain ⟨x71, hd70⟩ := ex1 (D_X3_get r q f_20 i p1 y5_20)
            replace hR := bnd1_use hd70 hR
            refine call_V (n := 2) (As := [.int p1, .int y5_20]) (rest := []) hX hB (k_X3_get κ l a r q f_20 i p1 y5_20 hi x71 hd70) ⟨rfl, by decide, by decide, by decide +kernel⟩ wm_2_7 wm_1_187 wm_1_188 wm_1_2 wm_1_189 ⟨Nat.le_of_ble_eq_true rfl, Nat.le_of_ble_eq_true rfl⟩ ⟨Nat.le_of_ble_eq_true rfl, Nat.le_of_ble_eq_true rfl⟩ (cwG (i := i) hi) rfl rfl rfl hl.1 rfl (Nat.le_of_ble_eq_true rfl) dX3_exchangeLines_45 (fun o w' H locs hp hB => ?_)
            obtain ⟨rfl, rfl⟩ := hp
            refine W.eq (g2 := F0 m 48 ls [.long x71]) rfl ?_
            exact jn48 x71 _ _  hR hB _ hl
          · replace hR := ifn c69 hR
            refine lv_aload_n hx hb dX3_exchangeLines_31 rfl (lv_at hl 2 rfl) ?_
            refine lv_iload hx hb dX3_exchangeLines_32 (lv_at hl 0 rfl) ?_
            refine lv_iload_n hx hb dX3_exchangeLines_34 rfl (lv_at hl 4 rfl) ?_
            obtain ⟨x73, hd72⟩ := ex1 (D_X3_get r q f_20 i y5_20 p1)
            replace hR := bnd1_use hd72 hR
            refine call_V (n := 2) (As := [.int y5_20, .int p1]) (rest := []) hX hB (k_X3_get κ l a r q f_20 i y5_20 p1 hi x73 hd72) ⟨rfl, by decide, by decide, by decide +kernel⟩ wm_2_7 wm_1_187 wm_1_188 wm_1_2 wm_1_189 ⟨Nat.le_of_ble_eq_true rfl, Nat.le_of_ble_eq_true rfl⟩ ⟨Nat.le_of_ble_eq_true rfl, Nat.le_of_ble_eq_true rfl⟩ (cwG (i := i) hi) rfl rfl rfl hl.1 rfl (Nat.le_of_ble_eq_true rfl) dX3_exchangeLines_35 (fun o w' H locs hp hB => ?_)
            obtain ⟨rfl, rfl⟩ := hp
            refine W.eq (g2 := F0 m 38 ls [.long x73]) rfl ?_
            refine lv_goto (tgt := 48) hx hb dX3_exchangeLines_38 (by decide) ?_
            exact jn48 x73 _ _  hR hB _ hl
    exact lp20 _ 0 f _ _  (Nat.lt_succ_self _) hR hB _ hl
  · replace hR := ifn c1 hR
    refine lv_aload_n hx hb dX3_exchangeLines_4 rfl (lv_at hl 0 rfl) ?_
    refine gf hX hB (cwG (i := i) hi) rfl in3 1 (by decide) wm_1_46 rfl rfl dX3_exchangeLines_5 ?_
    refine lv_goto (tgt := 15) hx hb dX3_exchangeLines_8 (by decide) ?_
    refine lv_istore (lv' := [(4, .int (r (2 * i))), (0, .ref (a (6 + 2 * i))), (1, .int p0), (2, .int p1), (3, .int p2)]) hx hb dX3_exchangeLines_15 hl (by decide) rfl (fun ls hl => ?_)
    refine lv_iconst (v := 0) hx hb dX3_exchangeLines_17 (by decide) ?_
    refine lv_istore (lv' := [(5, .int 0), (4, .int (r (2 * i))), (0, .ref (a (6 + 2 * i))), (1, .int p0), (2, .int p1), (3, .int p2)]) hx hb dX3_exchangeLines_18 hl (by decide) rfl (fun ls hl => ?_)
    have lp20 : ∀ (nn20 : Nat) (y5_20 : Int32) (f_20 : Nat → Nat → Int64) (H : Heap) (locs : List Loc), gap (r (2 * i)) y5_20 < nn20 → D_X3_exchangeLines_20_1 r q i p0 p1 p2 nn20 y5_20 f_20 = o_f → Bd κ A s (cw κ a r q f_20) H locs → ∀ ls : Array Slot, lv_has ls 8 [(5, .int y5_20), (4, .int (r (2 * i))), (0, .ref (a (6 + 2 * i))), (1, .int p0), (2, .int p1), (3, .int p2)] → W p l e (Rm 1 24 0 0) s m args below meth c H locs 0 0 Q (F0 m 20 ls []) := by
      intro nn20
      induction nn20 with
      | zero => intro y5_20 f_20 H locs hμ; exact absurd hμ (Nat.not_lt_zero _)
      | succ nn20 ih20 =>
        intro y5_20 f_20 H locs hμ20 hR hB ls hl
        replace hR := (D_X3_exchangeLines_20_1_s).symm.trans hR
        refine lv_iload hx hb dX3_exchangeLines_20 (lv_at hl 0 rfl) ?_
        refine lv_iload hx hb dX3_exchangeLines_22 (lv_at hl 1 rfl) ?_
        refine lv_icmp_ge (tgt := 109) hx hb dX3_exchangeLines_24 (by decide) (fun c122 => ?_) (fun c122 => ?_)
        · replace hR := ifp c122 hR
          rw [← hQ]
          exact end_v hX hB hA3 rfl (by obtain rfl := hR; exact ⟨rfl, rfl⟩) (Nat.le_of_ble_eq_true rfl) (Nat.le_of_ble_eq_true rfl) dX3_exchangeLines_109
        · replace hR := ifn c122 hR
          refine lv_iload_n hx hb dX3_exchangeLines_27 rfl (lv_at hl 3 rfl) ?_
          have jn48 : ∀ (z0_48 : Int64) (H : Heap) (locs : List Loc), D_X3_exchangeLines_j48_1 r q i p0 p1 p2 y5_20 f_20 (D_X3_exchangeLines_20_1 r q i p0 p1 p2 nn20) z0_48 = o_f → Bd κ A s (cw κ a r q f_20) H locs → ∀ ls : Array Slot, lv_has ls 8 [(5, .int y5_20), (4, .int (r (2 * i))), (0, .ref (a (6 + 2 * i))), (1, .int p0), (2, .int p1), (3, .int p2)] → W p l e (Rm 1 24 0 0) s m args below meth c H locs 0 0 Q (F0 m 48 ls [.long z0_48]) := by
            intro z0_48 H locs hR hB ls hl
            replace hR := (D_X3_exchangeLines_j48_1_s).symm.trans hR
            refine lv_lstore (lv' := [(6, .long z0_48), (5, .int y5_20), (4, .int (r (2 * i))), (0, .ref (a (6 + 2 * i))), (1, .int p0), (2, .int p1), (3, .int p2)]) hx hb dX3_exchangeLines_48 hl (by decide) rfl (fun ls hl => ?_)
            refine lv_iload_n hx hb dX3_exchangeLines_50 rfl (lv_at hl 4 rfl) ?_
            refine lv_if_eq (tgt := 80) hx hb dX3_exchangeLines_51 (by decide) (fun c128 => ?_) (fun c128 => ?_)
            · replace hR := ifp c128 hR
              refine lv_aload_n hx hb dX3_exchangeLines_80 rfl (lv_at hl 3 rfl) ?_
              refine lv_iload_n hx hb dX3_exchangeLines_81 rfl (lv_at hl 5 rfl) ?_
              refine lv_iload hx hb dX3_exchangeLines_82 (lv_at hl 1 rfl) ?_
              refine lv_aload_n hx hb dX3_exchangeLines_84 rfl (lv_at hl 3 rfl) ?_
              refine lv_iload_n hx hb dX3_exchangeLines_85 rfl (lv_at hl 6 rfl) ?_
              refine lv_iload hx hb dX3_exchangeLines_86 (lv_at hl 1 rfl) ?_
              obtain ⟨x130, hd129⟩ := ex1 (D_X3_get r q f_20 i p2 y5_20)
              replace hR := bnd1_use hd129 hR
              refine call_V (n := 2) (As := [.int p2, .int y5_20]) (rest := [.int y5_20, .int p1, .ref (a (6 + 2 * i))]) hX hB (k_X3_get κ l a r q f_20 i p2 y5_20 hi x130 hd129) ⟨rfl, by decide, by decide, by decide +kernel⟩ wm_2_7 wm_1_187 wm_1_188 wm_1_2 wm_1_189 ⟨Nat.le_of_ble_eq_true rfl, Nat.le_of_ble_eq_true rfl⟩ ⟨Nat.le_of_ble_eq_true rfl, Nat.le_of_ble_eq_true rfl⟩ (cwG (i := i) hi) rfl rfl rfl hl.1 rfl (Nat.le_of_ble_eq_true rfl) dX3_exchangeLines_88 (fun o w' H locs hp hB => ?_)
              obtain ⟨rfl, rfl⟩ := hp
              refine W.eq (g2 := F0 m 91 ls [.long x130, .int y5_20, .int p1, .ref (a (6 + 2 * i))]) rfl ?_
              obtain ⟨f132, hd131⟩ := ex1 (D_X3_set r q f_20 i p1 y5_20 x130)
              replace hR := bnd1_use hd131 hR
              refine call_V (n := 3) (As := [.int p1, .int y5_20, .long x130]) (rest := []) hX hB (k_X3_set κ l a r q f_20 i p1 y5_20 x130 hi f132 hd131) ⟨rfl, by decide, by decide, by decide +kernel⟩ wm_1_222 wm_1_223 wm_1_224 wm_1_2 wm_1_225 ⟨Nat.le_of_ble_eq_true rfl, Nat.le_of_ble_eq_true rfl⟩ ⟨Nat.le_of_ble_eq_true rfl, Nat.le_of_ble_eq_true rfl⟩ (cwG (i := i) hi) rfl rfl rfl hl.1 rfl (Nat.le_of_ble_eq_true rfl) dX3_exchangeLines_91 (fun o w' H locs hp hB => ?_)
              obtain ⟨rfl, rfl⟩ := hp
              refine W.eq (g2 := F0 m 94 ls []) rfl ?_
              refine lv_aload_n hx hb dX3_exchangeLines_94 rfl (lv_at hl 3 rfl) ?_
              refine lv_iload_n hx hb dX3_exchangeLines_95 rfl (lv_at hl 6 rfl) ?_
              refine lv_iload hx hb dX3_exchangeLines_96 (lv_at hl 1 rfl) ?_
              refine lv_lload hx hb dX3_exchangeLines_98 (lv_at hl 0 rfl) ?_
              obtain ⟨f134, hd133⟩ := ex1 (D_X3_set r q f132 i p2 y5_20 z0_48)
              replace hR := bnd1_use hd133 hR
              refine call_V (n := 3) (As := [.int p2, .int y5_20, .long z0_48]) (rest := []) hX hB (k_X3_set κ l a r q f132 i p2 y5_20 z0_48 hi f134 hd133) ⟨rfl, by decide, by decide, by decide +kernel⟩ wm_1_222 wm_1_223 wm_1_224 wm_1_2 wm_1_225 ⟨Nat.le_of_ble_eq_true rfl, Nat.le_of_ble_eq_true rfl⟩ ⟨Nat.le_of_ble_eq_true rfl, Nat.le_of_ble_eq_true rfl⟩ (cwG (i := i) hi) rfl rfl rfl hl.1 rfl (Nat.le_of_ble_eq_true rfl) dX3_exchangeLines_100 (fun o w' H locs hp hB => ?_)
              obtain ⟨rfl, rfl⟩ := hp
              refine W.eq (g2 := F0 m 103 ls []) rfl ?_
              refine lv_iinc (v := y5_20 + 1) (lv' := [(5, .int (y5_20 + 1)), (6, .long z0_48), (4, .int (r (2 * i))), (0, .ref (a (6 + 2 * i))), (1, .int p0), (2, .int p1), (3, .int p2)]) hx hb dX3_exchangeLines_103 hl (k := 1) rfl rfl (by decide) rfl (fun ls hl => ?_)
              refine lv_goto (tgt := 20) hx hb dX3_exchangeLines_106 (by decide) ?_
              exact ih20 (y5_20 + 1) f134 _ _  (gap_step c122 hμ20) hR hB _ (lv_sub hl [0, 2, 3, 4, 5, 6] rfl)
            · replace hR := ifn c128 hR
              refine lv_aload_n hx hb dX3_exchangeLines_54 rfl (lv_at hl 3 rfl) ?_
              refine lv_iload hx hb dX3_exchangeLines_55 (lv_at hl 1 rfl) ?_
              refine lv_iload_n hx hb dX3_exchangeLines_57 rfl (lv_at hl 5 rfl) ?_
              refine lv_aload_n hx hb dX3_exchangeLines_58 rfl (lv_at hl 3 rfl) ?_
              refine lv_iload hx hb dX3_exchangeLines_59 (lv_at hl 1 rfl) ?_
              refine lv_iload_n hx hb dX3_exchangeLines_61 rfl (lv_at hl 6 rfl) ?_
              obtain ⟨x136, hd135⟩ := ex1 (D_X3_get r q f_20 i y5_20 p2)
              replace hR := bnd1_use hd135 hR
              refine call_V (n := 2) (As := [.int y5_20, .int p2]) (rest := [.int p1, .int y5_20, .ref (a (6 + 2 * i))]) hX hB (k_X3_get κ l a r q f_20 i y5_20 p2 hi x136 hd135) ⟨rfl, by decide, by decide, by decide +kernel⟩ wm_2_7 wm_1_187 wm_1_188 wm_1_2 wm_1_189 ⟨Nat.le_of_ble_eq_true rfl, Nat.le_of_ble_eq_true rfl⟩ ⟨Nat.le_of_ble_eq_true rfl, Nat.le_of_ble_eq_true rfl⟩ (cwG (i := i) hi) rfl rfl rfl hl.1 rfl (Nat.le_of_ble_eq_true rfl) dX3_exchangeLines_62 (fun o w' H locs hp hB => ?_)
              obtain ⟨rfl, rfl⟩ := hp
              refine W.eq (g2 := F0 m 65 ls [.long x136, .int p1, .int y5_20, .ref (a (6 + 2 * i))]) rfl ?_
              obtain ⟨f138, hd137⟩ := ex1 (D_X3_set r q f_20 i y5_20 p1 x136)
              replace hR := bnd1_use hd137 hR
              refine call_V (n := 3) (As := [.int y5_20, .int p1, .long x136]) (rest := []) hX hB (k_X3_set κ l a r q f_20 i y5_20 p1 x136 hi f138 hd137) ⟨rfl, by decide, by decide, by decide +kernel⟩ wm_1_222 wm_1_223 wm_1_224 wm_1_2 wm_1_225 ⟨Nat.le_of_ble_eq_true rfl, Nat.le_of_ble_eq_true rfl⟩ ⟨Nat.le_of_ble_eq_true rfl, Nat.le_of_ble_eq_true rfl⟩ (cwG (i := i) hi) rfl rfl rfl hl.1 rfl (Nat.le_of_ble_eq_true rfl) dX3_exchangeLines_65 (fun o w' H locs hp hB => ?_)
              obtain ⟨rfl, rfl⟩ := hp
              refine W.eq (g2 := F0 m 68 ls []) rfl ?_
              refine lv_aload_n hx hb dX3_exchangeLines_68 rfl (lv_at hl 3 rfl) ?_
              refine lv_iload hx hb dX3_exchangeLines_69 (lv_at hl 1 rfl) ?_
              refine lv_iload_n hx hb dX3_exchangeLines_71 rfl (lv_at hl 6 rfl) ?_
              refine lv_lload hx hb dX3_exchangeLines_72 (lv_at hl 0 rfl) ?_
              obtain ⟨f140, hd139⟩ := ex1 (D_X3_set r q f138 i y5_20 p2 z0_48)
              replace hR := bnd1_use hd139 hR
              refine call_V (n := 3) (As := [.int y5_20, .int p2, .long z0_48]) (rest := []) hX hB (k_X3_set κ l a r q f138 i y5_20 p2 z0_48 hi f140 hd139) ⟨rfl, by decide, by decide, by decide +kernel⟩ wm_1_222 wm_1_223 wm_1_224 wm_1_2 wm_1_225 ⟨Nat.le_of_ble_eq_true rfl, Nat.le_of_ble_eq_true rfl⟩ ⟨Nat.le_of_ble_eq_true rfl, Nat.le_of_ble_eq_true rfl⟩ (cwG (i := i) hi) rfl rfl rfl hl.1 rfl (Nat.le_of_ble_eq_true rfl) dX3_exchangeLines_74 (fun o w' H locs hp hB => ?_)
              obtain ⟨rfl, rfl⟩ := hp
              refine W.eq (g2 := F0 m 77 ls []) rfl ?_
              refine lv_goto (tgt := 103) hx hb dX3_exchangeLines_77 (by decide) ?_
              refine lv_iinc (v := y5_20 + 1) (lv' := [(5, .int (y5_20 + 1)), (6, .long z0_48), (4, .int (r (2 * i))), (0, .ref (a (6 + 2 * i))), (1, .int p0), (2, .int p1), (3, .int p2)]) hx hb dX3_exchangeLines_103 hl (k := 1) rfl rfl (by decide) rfl (fun ls hl => ?_)
              refine lv_goto (tgt := 20) hx hb dX3_exchangeLines_106 (by decide) ?_
              exact ih20 (y5_20 + 1) f140 _ _  (gap_step c122 hμ20) hR hB _ (lv_sub hl [0, 2, 3, 4, 5, 6] rfl)
          refine lv_if_eq (tgt := 41) hx hb dX3_exchangeLines_28 (by decide) (fun c141 => ?_) (fun c141 => ?_)
          · replace hR := ifp c141 hR
            refine lv_aload_n hx hb dX3_exchangeLines_41 rfl (lv_at hl 2 rfl) ?_
            refine lv_iload_n hx hb dX3_exchangeLines_42 rfl (lv_at hl 4 rfl) ?_
            refine lv_iload hx hb dX3_exchangeLines_43 (lv_at hl 0 rfl) ?_
            obtain ⟨x143, hd142⟩ := ex1 (D_X3_get r q f_20 i p1 y5_20)
            replace hR := bnd1_use hd142 hR
            refine call_V (n := 2) (As := [.int p1, .int y5_20]) (rest := []) hX hB (k_X3_get κ l a r q f_20 i p1 y5_20 hi x143 hd142) ⟨rfl, by decide, by decide, by decide +kernel⟩ wm_2_7 wm_1_187 wm_1_188 wm_1_2 wm_1_189 ⟨Nat.le_of_ble_eq_true rfl, Nat.le_of_ble_eq_true rfl⟩ ⟨Nat.le_of_ble_eq_true rfl, Nat.le_of_ble_eq_true rfl⟩ (cwG (i := i) hi) rfl rfl rfl hl.1 rfl (Nat.le_of_ble_eq_true rfl) dX3_exchangeLines_45 (fun o w' H locs hp hB => ?_)
            obtain ⟨rfl, rfl⟩ := hp
            refine W.eq (g2 := F0 m 48 ls [.long x143]) rfl ?_
            exact jn48 x143 _ _  hR hB _ hl
          · replace hR := ifn c141 hR
            refine lv_aload_n hx hb dX3_exchangeLines_31 rfl (lv_at hl 2 rfl) ?_
            refine lv_iload hx hb dX3_exchangeLines_32 (lv_at hl 0 rfl) ?_
            refine lv_iload_n hx hb dX3_exchangeLines_34 rfl (lv_at hl 4 rfl) ?_
            obtain ⟨x145, hd144⟩ := ex1 (D_X3_get r q f_20 i y5_20 p1)
            replace hR := bnd1_use hd144 hR
            refine call_V (n := 2) (As := [.int y5_20, .int p1]) (rest := []) hX hB (k_X3_get κ l a r q f_20 i y5_20 p1 hi x145 hd144) ⟨rfl, by decide, by decide, by decide +kernel⟩ wm_2_7 wm_1_187 wm_1_188 wm_1_2 wm_1_189 ⟨Nat.le_of_ble_eq_true rfl, Nat.le_of_ble_eq_true rfl⟩ ⟨Nat.le_of_ble_eq_true rfl, Nat.le_of_ble_eq_true rfl⟩ (cwG (i := i) hi) rfl rfl rfl hl.1 rfl (Nat.le_of_ble_eq_true rfl) dX3_exchangeLines_35 (fun o w' H locs hp hB => ?_)
            obtain ⟨rfl, rfl⟩ := hp
            refine W.eq (g2 := F0 m 38 ls [.long x145]) rfl ?_
            refine lv_goto (tgt := 48) hx hb dX3_exchangeLines_38 (by decide) ?_
            exact jn48 x145 _ _  hR hB _ hl
    exact lp20 _ 0 f _ _  (Nat.lt_succ_self _) hR hB _ hl
noncomputable def D_X3_turnLine_19 (r : Nat → Int32) (q : Nat → Int32) (i : Nat) (p0 : Int32) (p1 : Int32) (nn : Nat) : Int32 → (Nat → Nat → Int64) → (Nat → Nat → Int64) := @Nat.rec (fun _ => Int32 → (Nat → Nat → Int64) → (Nat → Nat → Int64)) (fun _ _ => default) (fun _ lb19 (y4_19 : Int32) (f_19 : Nat → Nat → Int64) => (if (r (2 * i + 1)) ≤ y4_19 then f_19 else (if p0 = 0 then bnd1 (D_X3_get r q f_19 i p1 y4_19) (fun (x25 : Int64) => bnd1 (D_X3_set r q f_19 i p1 y4_19 (-x25)) (fun (f27 : Nat → Nat → Int64) => (lb19 (y4_19 + 1) f27))) else bnd1 (D_X3_get r q f_19 i y4_19 p1) (fun (x29 : Int64) => bnd1 (D_X3_set r q f_19 i y4_19 p1 (-x29)) (fun (f31 : Nat → Nat → Int64) => (lb19 (y4_19 + 1) f31)))))) nn
theorem D_X3_turnLine_19_s {r : Nat → Int32} {q : Nat → Int32} {i : Nat} {p0 : Int32} {p1 : Int32} {nn : Nat} {y4_19 : Int32} {f_19 : Nat → Nat → Int64} : D_X3_turnLine_19 r q i p0 p1 (nn + 1) y4_19 f_19 = (if (r (2 * i + 1)) ≤ y4_19 then f_19 else (if p0 = 0 then bnd1 (D_X3_get r q f_19 i p1 y4_19) (fun (x25 : Int64) => bnd1 (D_X3_set r q f_19 i p1 y4_19 (-x25)) (fun (f27 : Nat → Nat → Int64) => ((D_X3_turnLine_19 r q i p0 p1 nn) (y4_19 + 1) f27))) else bnd1 (D_X3_get r q f_19 i y4_19 p1) (fun (x29 : Int64) => bnd1 (D_X3_set r q f_19 i y4_19 p1 (-x29)) (fun (f31 : Nat → Nat → Int64) => ((D_X3_turnLine_19 r q i p0 p1 nn) (y4_19 + 1) f31))))) := rfl
noncomputable def D_X3_turnLine_19_1 (r : Nat → Int32) (q : Nat → Int32) (i : Nat) (p0 : Int32) (p1 : Int32) (nn : Nat) : Int32 → (Nat → Nat → Int64) → (Nat → Nat → Int64) := @Nat.rec (fun _ => Int32 → (Nat → Nat → Int64) → (Nat → Nat → Int64)) (fun _ _ => default) (fun _ lb19 (y4_19 : Int32) (f_19 : Nat → Nat → Int64) => (if (r (2 * i)) ≤ y4_19 then f_19 else (if p0 = 0 then bnd1 (D_X3_get r q f_19 i p1 y4_19) (fun (x55 : Int64) => bnd1 (D_X3_set r q f_19 i p1 y4_19 (-x55)) (fun (f57 : Nat → Nat → Int64) => (lb19 (y4_19 + 1) f57))) else bnd1 (D_X3_get r q f_19 i y4_19 p1) (fun (x59 : Int64) => bnd1 (D_X3_set r q f_19 i y4_19 p1 (-x59)) (fun (f61 : Nat → Nat → Int64) => (lb19 (y4_19 + 1) f61)))))) nn
theorem D_X3_turnLine_19_1_s {r : Nat → Int32} {q : Nat → Int32} {i : Nat} {p0 : Int32} {p1 : Int32} {nn : Nat} {y4_19 : Int32} {f_19 : Nat → Nat → Int64} : D_X3_turnLine_19_1 r q i p0 p1 (nn + 1) y4_19 f_19 = (if (r (2 * i)) ≤ y4_19 then f_19 else (if p0 = 0 then bnd1 (D_X3_get r q f_19 i p1 y4_19) (fun (x55 : Int64) => bnd1 (D_X3_set r q f_19 i p1 y4_19 (-x55)) (fun (f57 : Nat → Nat → Int64) => ((D_X3_turnLine_19_1 r q i p0 p1 nn) (y4_19 + 1) f57))) else bnd1 (D_X3_get r q f_19 i y4_19 p1) (fun (x59 : Int64) => bnd1 (D_X3_set r q f_19 i y4_19 p1 (-x59)) (fun (f61 : Nat → Nat → Int64) => ((D_X3_turnLine_19_1 r q i p0 p1 nn) (y4_19 + 1) f61))))) := rfl
noncomputable def D_X3_turnLine (r : Nat → Int32) (q : Nat → Int32) (f : Nat → Nat → Int64) (i : Nat) (p0 : Int32) (p1 : Int32) : (Nat → Nat → Int64) := (if p0 = 0 then (D_X3_turnLine_19 r q i p0 p1 (gap (r (2 * i + 1)) 0 + 1) 0 f) else (D_X3_turnLine_19_1 r q i p0 p1 (gap (r (2 * i)) 0 + 1) 0 f))
theorem D_X3_turnLine_s {r : Nat → Int32} {q : Nat → Int32} {f : Nat → Nat → Int64} {i : Nat} {p0 : Int32} {p1 : Int32} : D_X3_turnLine r q f i p0 p1 = (if p0 = 0 then (D_X3_turnLine_19 r q i p0 p1 (gap (r (2 * i + 1)) 0 + 1) 0 f) else (D_X3_turnLine_19_1 r q i p0 p1 (gap (r (2 * i)) 0 + 1) 0 f)) := rfl
set_option maxHeartbeats 4000000 in
set_option maxRecDepth 100000 in
theorem k_X3_turnLine (κ : Kt) (l : Launch) (a : Nat → Nat) (r q : Nat → Int32) (f : Nat → Nat → Int64) (i : Nat) (p0 : Int32) (p1 : Int32) (hi : i < 15) (o_f : Nat → Nat → Int64) (hR : D_X3_turnLine r q f i p0 p1 = o_f) : CM κ l yX3_turnLine cX3_turnLine 5 (none) 1 24 0 0 [.ref (a (6 + 2 * i)), .int p0, .int p1] (cw κ a r q f) (fun o w' => o = none ∧ w' = cw κ a r q o_f) := by
  refine CM_begin (plainFor_of_name (by decide)) (Nat.le_of_ble_eq_true rfl) ?_
  intro p e s m args below meth c A Q hX hnm hA3 hQ hB ls hl
  have hx := hX.1.1
  have hb := hX.1.2.1
  have hl : lv_has ls 5 [(0, .ref (a (6 + 2 * i))), (1, .int p0), (2, .int p1)] := hl
  replace hR := (D_X3_turnLine_s).symm.trans hR
  refine lv_iload_n hx hb dX3_turnLine_0 rfl (lv_at hl 1 rfl) ?_
  refine lv_if_eq (tgt := 11) hx hb dX3_turnLine_1 (by decide) (fun c1 => ?_) (fun c1 => ?_)
  · replace hR := ifp c1 hR
    refine lv_aload_n hx hb dX3_turnLine_11 rfl (lv_at hl 0 rfl) ?_
    refine gf hX hB (cwG (i := i) hi) rfl in3 2 (by decide) wm_1_52 rfl rfl dX3_turnLine_12 ?_
    refine lv_istore_n (lv' := [(3, .int (r (2 * i + 1))), (0, .ref (a (6 + 2 * i))), (1, .int p0), (2, .int p1)]) hx hb dX3_turnLine_15 rfl hl (by decide) rfl (fun ls hl => ?_)
    refine lv_iconst (v := 0) hx hb dX3_turnLine_16 (by decide) ?_
    refine lv_istore (lv' := [(4, .int 0), (3, .int (r (2 * i + 1))), (0, .ref (a (6 + 2 * i))), (1, .int p0), (2, .int p1)]) hx hb dX3_turnLine_17 hl (by decide) rfl (fun ls hl => ?_)
    have lp19 : ∀ (nn19 : Nat) (y4_19 : Int32) (f_19 : Nat → Nat → Int64) (H : Heap) (locs : List Loc), gap (r (2 * i + 1)) y4_19 < nn19 → D_X3_turnLine_19 r q i p0 p1 nn19 y4_19 f_19 = o_f → Bd κ A s (cw κ a r q f_19) H locs → ∀ ls : Array Slot, lv_has ls 5 [(4, .int y4_19), (3, .int (r (2 * i + 1))), (0, .ref (a (6 + 2 * i))), (1, .int p0), (2, .int p1)] → W p l e (Rm 1 24 0 0) s m args below meth c H locs 0 0 Q (F0 m 19 ls []) := by
      intro nn19
      induction nn19 with
      | zero => intro y4_19 f_19 H locs hμ; exact absurd hμ (Nat.not_lt_zero _)
      | succ nn19 ih19 =>
        intro y4_19 f_19 H locs hμ19 hR hB ls hl
        replace hR := (D_X3_turnLine_19_s).symm.trans hR
        refine lv_iload hx hb dX3_turnLine_19 (lv_at hl 0 rfl) ?_
        refine lv_iload_n hx hb dX3_turnLine_21 rfl (lv_at hl 1 rfl) ?_
        refine lv_icmp_ge (tgt := 68) hx hb dX3_turnLine_22 (by decide) (fun c22 => ?_) (fun c22 => ?_)
        · replace hR := ifp c22 hR
          rw [← hQ]
          exact end_v hX hB hA3 rfl (by obtain rfl := hR; exact ⟨rfl, rfl⟩) (Nat.le_of_ble_eq_true rfl) (Nat.le_of_ble_eq_true rfl) dX3_turnLine_68
        · replace hR := ifn c22 hR
          refine lv_iload_n hx hb dX3_turnLine_25 rfl (lv_at hl 3 rfl) ?_
          refine lv_if_eq (tgt := 47) hx hb dX3_turnLine_26 (by decide) (fun c23 => ?_) (fun c23 => ?_)
          · replace hR := ifp c23 hR
            refine lv_aload_n hx hb dX3_turnLine_47 rfl (lv_at hl 2 rfl) ?_
            refine lv_iload_n hx hb dX3_turnLine_48 rfl (lv_at hl 4 rfl) ?_
            refine lv_iload hx hb dX3_turnLine_49 (lv_at hl 0 rfl) ?_
            refine lv_aload_n hx hb dX3_turnLine_51 rfl (lv_at hl 2 rfl) ?_
            refine lv_iload_n hx hb dX3_turnLine_52 rfl (lv_at hl 4 rfl) ?_
            refine lv_iload hx hb dX3_turnLine_53 (lv_at hl 0 rfl) ?_
            obtain ⟨x25, hd24⟩ := ex1 (D_X3_get r q f_19 i p1 y4_19)
            replace hR := bnd1_use hd24 hR
            refine call_V (n := 2) (As := [.int p1, .int y4_19]) (rest := [.int y4_19, .int p1, .ref (a (6 + 2 * i))]) hX hB (k_X3_get κ l a r q f_19 i p1 y4_19 hi x25 hd24) ⟨rfl, by decide, by decide, by decide +kernel⟩ wm_2_7 wm_1_187 wm_1_188 wm_1_2 wm_1_189 ⟨Nat.le_of_ble_eq_true rfl, Nat.le_of_ble_eq_true rfl⟩ ⟨Nat.le_of_ble_eq_true rfl, Nat.le_of_ble_eq_true rfl⟩ (cwG (i := i) hi) rfl rfl rfl hl.1 rfl (Nat.le_of_ble_eq_true rfl) dX3_turnLine_55 (fun o w' H locs hp hB => ?_)
            obtain ⟨rfl, rfl⟩ := hp
            refine W.eq (g2 := F0 m 58 ls [.long x25, .int y4_19, .int p1, .ref (a (6 + 2 * i))]) rfl ?_
            refine lv_lneg hx hb dX3_turnLine_58 ?_
            obtain ⟨f27, hd26⟩ := ex1 (D_X3_set r q f_19 i p1 y4_19 (-x25))
            replace hR := bnd1_use hd26 hR
            refine call_V (n := 3) (As := [.int p1, .int y4_19, .long (-x25)]) (rest := []) hX hB (k_X3_set κ l a r q f_19 i p1 y4_19 (-x25) hi f27 hd26) ⟨rfl, by decide, by decide, by decide +kernel⟩ wm_1_222 wm_1_223 wm_1_224 wm_1_2 wm_1_225 ⟨Nat.le_of_ble_eq_true rfl, Nat.le_of_ble_eq_true rfl⟩ ⟨Nat.le_of_ble_eq_true rfl, Nat.le_of_ble_eq_true rfl⟩ (cwG (i := i) hi) rfl rfl rfl hl.1 rfl (Nat.le_of_ble_eq_true rfl) dX3_turnLine_59 (fun o w' H locs hp hB => ?_)
            obtain ⟨rfl, rfl⟩ := hp
            refine W.eq (g2 := F0 m 62 ls []) rfl ?_
            refine lv_iinc (v := y4_19 + 1) (lv' := [(4, .int (y4_19 + 1)), (3, .int (r (2 * i + 1))), (0, .ref (a (6 + 2 * i))), (1, .int p0), (2, .int p1)]) hx hb dX3_turnLine_62 hl (k := 0) rfl rfl (by decide) rfl (fun ls hl => ?_)
            refine lv_goto (tgt := 19) hx hb dX3_turnLine_65 (by decide) ?_
            exact ih19 (y4_19 + 1) f27 _ _  (gap_step c22 hμ19) hR hB _ hl
          · replace hR := ifn c23 hR
            refine lv_aload_n hx hb dX3_turnLine_29 rfl (lv_at hl 2 rfl) ?_
            refine lv_iload hx hb dX3_turnLine_30 (lv_at hl 0 rfl) ?_
            refine lv_iload_n hx hb dX3_turnLine_32 rfl (lv_at hl 4 rfl) ?_
            refine lv_aload_n hx hb dX3_turnLine_33 rfl (lv_at hl 2 rfl) ?_
            refine lv_iload hx hb dX3_turnLine_34 (lv_at hl 0 rfl) ?_
            refine lv_iload_n hx hb dX3_turnLine_36 rfl (lv_at hl 4 rfl) ?_
            obtain ⟨x29, hd28⟩ := ex1 (D_X3_get r q f_19 i y4_19 p1)
            replace hR := bnd1_use hd28 hR
            refine call_V (n := 2) (As := [.int y4_19, .int p1]) (rest := [.int p1, .int y4_19, .ref (a (6 + 2 * i))]) hX hB (k_X3_get κ l a r q f_19 i y4_19 p1 hi x29 hd28) ⟨rfl, by decide, by decide, by decide +kernel⟩ wm_2_7 wm_1_187 wm_1_188 wm_1_2 wm_1_189 ⟨Nat.le_of_ble_eq_true rfl, Nat.le_of_ble_eq_true rfl⟩ ⟨Nat.le_of_ble_eq_true rfl, Nat.le_of_ble_eq_true rfl⟩ (cwG (i := i) hi) rfl rfl rfl hl.1 rfl (Nat.le_of_ble_eq_true rfl) dX3_turnLine_37 (fun o w' H locs hp hB => ?_)
            obtain ⟨rfl, rfl⟩ := hp
            refine W.eq (g2 := F0 m 40 ls [.long x29, .int p1, .int y4_19, .ref (a (6 + 2 * i))]) rfl ?_
            refine lv_lneg hx hb dX3_turnLine_40 ?_
            obtain ⟨f31, hd30⟩ := ex1 (D_X3_set r q f_19 i y4_19 p1 (-x29))
            replace hR := bnd1_use hd30 hR
            refine call_V (n := 3) (As := [.int y4_19, .int p1, .long (-x29)]) (rest := []) hX hB (k_X3_set κ l a r q f_19 i y4_19 p1 (-x29) hi f31 hd30) ⟨rfl, by decide, by decide, by decide +kernel⟩ wm_1_222 wm_1_223 wm_1_224 wm_1_2 wm_1_225 ⟨Nat.le_of_ble_eq_true rfl, Nat.le_of_ble_eq_true rfl⟩ ⟨Nat.le_of_ble_eq_true rfl, Nat.le_of_ble_eq_true rfl⟩ (cwG (i := i) hi) rfl rfl rfl hl.1 rfl (Nat.le_of_ble_eq_true rfl) dX3_turnLine_41 (fun o w' H locs hp hB => ?_)
            obtain ⟨rfl, rfl⟩ := hp
            refine W.eq (g2 := F0 m 44 ls []) rfl ?_
            refine lv_goto (tgt := 62) hx hb dX3_turnLine_44 (by decide) ?_
            refine lv_iinc (v := y4_19 + 1) (lv' := [(4, .int (y4_19 + 1)), (3, .int (r (2 * i + 1))), (0, .ref (a (6 + 2 * i))), (1, .int p0), (2, .int p1)]) hx hb dX3_turnLine_62 hl (k := 0) rfl rfl (by decide) rfl (fun ls hl => ?_)
            refine lv_goto (tgt := 19) hx hb dX3_turnLine_65 (by decide) ?_
            exact ih19 (y4_19 + 1) f31 _ _  (gap_step c22 hμ19) hR hB _ hl
    exact lp19 _ 0 f _ _  (Nat.lt_succ_self _) hR hB _ hl
  · replace hR := ifn c1 hR
    refine lv_aload_n hx hb dX3_turnLine_4 rfl (lv_at hl 0 rfl) ?_
    refine gf hX hB (cwG (i := i) hi) rfl in3 1 (by decide) wm_1_46 rfl rfl dX3_turnLine_5 ?_
    refine lv_goto (tgt := 15) hx hb dX3_turnLine_8 (by decide) ?_
    refine lv_istore_n (lv' := [(3, .int (r (2 * i))), (0, .ref (a (6 + 2 * i))), (1, .int p0), (2, .int p1)]) hx hb dX3_turnLine_15 rfl hl (by decide) rfl (fun ls hl => ?_)
    refine lv_iconst (v := 0) hx hb dX3_turnLine_16 (by decide) ?_
    refine lv_istore (lv' := [(4, .int 0), (3, .int (r (2 * i))), (0, .ref (a (6 + 2 * i))), (1, .int p0), (2, .int p1)]) hx hb dX3_turnLine_17 hl (by decide) rfl (fun ls hl => ?_)
    have lp19 : ∀ (nn19 : Nat) (y4_19 : Int32) (f_19 : Nat → Nat → Int64) (H : Heap) (locs : List Loc), gap (r (2 * i)) y4_19 < nn19 → D_X3_turnLine_19_1 r q i p0 p1 nn19 y4_19 f_19 = o_f → Bd κ A s (cw κ a r q f_19) H locs → ∀ ls : Array Slot, lv_has ls 5 [(4, .int y4_19), (3, .int (r (2 * i))), (0, .ref (a (6 + 2 * i))), (1, .int p0), (2, .int p1)] → W p l e (Rm 1 24 0 0) s m args below meth c H locs 0 0 Q (F0 m 19 ls []) := by
      intro nn19
      induction nn19 with
      | zero => intro y4_19 f_19 H locs hμ; exact absurd hμ (Nat.not_lt_zero _)
      | succ nn19 ih19 =>
        intro y4_19 f_19 H locs hμ19 hR hB ls hl
        replace hR := (D_X3_turnLine_19_1_s).symm.trans hR
        refine lv_iload hx hb dX3_turnLine_19 (lv_at hl 0 rfl) ?_
        refine lv_iload_n hx hb dX3_turnLine_21 rfl (lv_at hl 1 rfl) ?_
        refine lv_icmp_ge (tgt := 68) hx hb dX3_turnLine_22 (by decide) (fun c52 => ?_) (fun c52 => ?_)
        · replace hR := ifp c52 hR
          rw [← hQ]
          exact end_v hX hB hA3 rfl (by obtain rfl := hR; exact ⟨rfl, rfl⟩) (Nat.le_of_ble_eq_true rfl) (Nat.le_of_ble_eq_true rfl) dX3_turnLine_68
        · replace hR := ifn c52 hR
          refine lv_iload_n hx hb dX3_turnLine_25 rfl (lv_at hl 3 rfl) ?_
          refine lv_if_eq (tgt := 47) hx hb dX3_turnLine_26 (by decide) (fun c53 => ?_) (fun c53 => ?_)
          · replace hR := ifp c53 hR
            refine lv_aload_n hx hb dX3_turnLine_47 rfl (lv_at hl 2 rfl) ?_
            refine lv_iload_n hx hb dX3_turnLine_48 rfl (lv_at hl 4 rfl) ?_
            refine lv_iload hx hb dX3_turnLine_49 (lv_at hl 0 rfl) ?_
            refine lv_aload_n hx hb dX3_turnLine_51 rfl (lv_at hl 2 rfl) ?_
            refine lv_iload_n hx hb dX3_turnLine_52 rfl (lv_at hl 4 rfl) ?_
            refine lv_iload hx hb dX3_turnLine_53 (lv_at hl 0 rfl) ?_
            obtain ⟨x55, hd54⟩ := ex1 (D_X3_get r q f_19 i p1 y4_19)
            replace hR := bnd1_use hd54 hR
            refine call_V (n := 2) (As := [.int p1, .int y4_19]) (rest := [.int y4_19, .int p1, .ref (a (6 + 2 * i))]) hX hB (k_X3_get κ l a r q f_19 i p1 y4_19 hi x55 hd54) ⟨rfl, by decide, by decide, by decide +kernel⟩ wm_2_7 wm_1_187 wm_1_188 wm_1_2 wm_1_189 ⟨Nat.le_of_ble_eq_true rfl, Nat.le_of_ble_eq_true rfl⟩ ⟨Nat.le_of_ble_eq_true rfl, Nat.le_of_ble_eq_true rfl⟩ (cwG (i := i) hi) rfl rfl rfl hl.1 rfl (Nat.le_of_ble_eq_true rfl) dX3_turnLine_55 (fun o w' H locs hp hB => ?_)
            obtain ⟨rfl, rfl⟩ := hp
            refine W.eq (g2 := F0 m 58 ls [.long x55, .int y4_19, .int p1, .ref (a (6 + 2 * i))]) rfl ?_
            refine lv_lneg hx hb dX3_turnLine_58 ?_
            obtain ⟨f57, hd56⟩ := ex1 (D_X3_set r q f_19 i p1 y4_19 (-x55))
            replace hR := bnd1_use hd56 hR
            refine call_V (n := 3) (As := [.int p1, .int y4_19, .long (-x55)]) (rest := []) hX hB (k_X3_set κ l a r q f_19 i p1 y4_19 (-x55) hi f57 hd56) ⟨rfl, by decide, by decide, by decide +kernel⟩ wm_1_222 wm_1_223 wm_1_224 wm_1_2 wm_1_225 ⟨Nat.le_of_ble_eq_true rfl, Nat.le_of_ble_eq_true rfl⟩ ⟨Nat.le_of_ble_eq_true rfl, Nat.le_of_ble_eq_true rfl⟩ (cwG (i := i) hi) rfl rfl rfl hl.1 rfl (Nat.le_of_ble_eq_true rfl) dX3_turnLine_59 (fun o w' H locs hp hB => ?_)
            obtain ⟨rfl, rfl⟩ := hp
            refine W.eq (g2 := F0 m 62 ls []) rfl ?_
            refine lv_iinc (v := y4_19 + 1) (lv' := [(4, .int (y4_19 + 1)), (3, .int (r (2 * i))), (0, .ref (a (6 + 2 * i))), (1, .int p0), (2, .int p1)]) hx hb dX3_turnLine_62 hl (k := 0) rfl rfl (by decide) rfl (fun ls hl => ?_)
            refine lv_goto (tgt := 19) hx hb dX3_turnLine_65 (by decide) ?_
            exact ih19 (y4_19 + 1) f57 _ _  (gap_step c52 hμ19) hR hB _ hl
          · replace hR := ifn c53 hR
            refine lv_aload_n hx hb dX3_turnLine_29 rfl (lv_at hl 2 rfl) ?_
            refine lv_iload hx hb dX3_turnLine_30 (lv_at hl 0 rfl) ?_
            refine lv_iload_n hx hb dX3_turnLine_32 rfl (lv_at hl 4 rfl) ?_
            refine lv_aload_n hx hb dX3_turnLine_33 rfl (lv_at hl 2 rfl) ?_
            refine lv_iload hx hb dX3_turnLine_34 (lv_at hl 0 rfl) ?_
            refine lv_iload_n hx hb dX3_turnLine_36 rfl (lv_at hl 4 rfl) ?_
            obtain ⟨x59, hd58⟩ := ex1 (D_X3_get r q f_19 i y4_19 p1)
            replace hR := bnd1_use hd58 hR
            refine call_V (n := 2) (As := [.int y4_19, .int p1]) (rest := [.int p1, .int y4_19, .ref (a (6 + 2 * i))]) hX hB (k_X3_get κ l a r q f_19 i y4_19 p1 hi x59 hd58) ⟨rfl, by decide, by decide, by decide +kernel⟩ wm_2_7 wm_1_187 wm_1_188 wm_1_2 wm_1_189 ⟨Nat.le_of_ble_eq_true rfl, Nat.le_of_ble_eq_true rfl⟩ ⟨Nat.le_of_ble_eq_true rfl, Nat.le_of_ble_eq_true rfl⟩ (cwG (i := i) hi) rfl rfl rfl hl.1 rfl (Nat.le_of_ble_eq_true rfl) dX3_turnLine_37 (fun o w' H locs hp hB => ?_)
            obtain ⟨rfl, rfl⟩ := hp
            refine W.eq (g2 := F0 m 40 ls [.long x59, .int p1, .int y4_19, .ref (a (6 + 2 * i))]) rfl ?_
            refine lv_lneg hx hb dX3_turnLine_40 ?_
            obtain ⟨f61, hd60⟩ := ex1 (D_X3_set r q f_19 i y4_19 p1 (-x59))
            replace hR := bnd1_use hd60 hR
            refine call_V (n := 3) (As := [.int y4_19, .int p1, .long (-x59)]) (rest := []) hX hB (k_X3_set κ l a r q f_19 i y4_19 p1 (-x59) hi f61 hd60) ⟨rfl, by decide, by decide, by decide +kernel⟩ wm_1_222 wm_1_223 wm_1_224 wm_1_2 wm_1_225 ⟨Nat.le_of_ble_eq_true rfl, Nat.le_of_ble_eq_true rfl⟩ ⟨Nat.le_of_ble_eq_true rfl, Nat.le_of_ble_eq_true rfl⟩ (cwG (i := i) hi) rfl rfl rfl hl.1 rfl (Nat.le_of_ble_eq_true rfl) dX3_turnLine_41 (fun o w' H locs hp hB => ?_)
            obtain ⟨rfl, rfl⟩ := hp
            refine W.eq (g2 := F0 m 44 ls []) rfl ?_
            refine lv_goto (tgt := 62) hx hb dX3_turnLine_44 (by decide) ?_
            refine lv_iinc (v := y4_19 + 1) (lv' := [(4, .int (y4_19 + 1)), (3, .int (r (2 * i))), (0, .ref (a (6 + 2 * i))), (1, .int p0), (2, .int p1)]) hx hb dX3_turnLine_62 hl (k := 0) rfl rfl (by decide) rfl (fun ls hl => ?_)
            refine lv_goto (tgt := 19) hx hb dX3_turnLine_65 (by decide) ?_
            exact ih19 (y4_19 + 1) f61 _ _  (gap_step c52 hμ19) hR hB _ hl
    exact lp19 _ 0 f _ _  (Nat.lt_succ_self _) hR hB _ hl
noncomputable def D_X3_addLine_20 (r : Nat → Int32) (q : Nat → Int32) (i : Nat) (p0 : Int32) (p1 : Int32) (p2 : Int32) (p3 : Int64) (nn : Nat) : Int32 → (Nat → Nat → Int64) → (Nat → Nat → Int64) := @Nat.rec (fun _ => Int32 → (Nat → Nat → Int64) → (Nat → Nat → Int64)) (fun _ _ => default) (fun _ lb20 (y7_20 : Int32) (f_20 : Nat → Nat → Int64) => (if (r (2 * i + 1)) ≤ y7_20 then f_20 else (if p0 = 0 then bnd1 (D_X3_get r q f_20 i p1 y7_20) (fun (x33 : Int64) => bnd1 (D_X3_get r q f_20 i p2 y7_20) (fun (x35 : Int64) => bnd1 (D_X3_set r q f_20 i p1 y7_20 (x33 + (p3 * x35))) (fun (f37 : Nat → Nat → Int64) => (lb20 (y7_20 + 1) f37)))) else bnd1 (D_X3_get r q f_20 i y7_20 p1) (fun (x39 : Int64) => bnd1 (D_X3_get r q f_20 i y7_20 p2) (fun (x41 : Int64) => bnd1 (D_X3_set r q f_20 i y7_20 p1 (x39 + (p3 * x41))) (fun (f43 : Nat → Nat → Int64) => (lb20 (y7_20 + 1) f43))))))) nn
theorem D_X3_addLine_20_s {r : Nat → Int32} {q : Nat → Int32} {i : Nat} {p0 : Int32} {p1 : Int32} {p2 : Int32} {p3 : Int64} {nn : Nat} {y7_20 : Int32} {f_20 : Nat → Nat → Int64} : D_X3_addLine_20 r q i p0 p1 p2 p3 (nn + 1) y7_20 f_20 = (if (r (2 * i + 1)) ≤ y7_20 then f_20 else (if p0 = 0 then bnd1 (D_X3_get r q f_20 i p1 y7_20) (fun (x33 : Int64) => bnd1 (D_X3_get r q f_20 i p2 y7_20) (fun (x35 : Int64) => bnd1 (D_X3_set r q f_20 i p1 y7_20 (x33 + (p3 * x35))) (fun (f37 : Nat → Nat → Int64) => ((D_X3_addLine_20 r q i p0 p1 p2 p3 nn) (y7_20 + 1) f37)))) else bnd1 (D_X3_get r q f_20 i y7_20 p1) (fun (x39 : Int64) => bnd1 (D_X3_get r q f_20 i y7_20 p2) (fun (x41 : Int64) => bnd1 (D_X3_set r q f_20 i y7_20 p1 (x39 + (p3 * x41))) (fun (f43 : Nat → Nat → Int64) => ((D_X3_addLine_20 r q i p0 p1 p2 p3 nn) (y7_20 + 1) f43)))))) := rfl
noncomputable def D_X3_addLine_20_1 (r : Nat → Int32) (q : Nat → Int32) (i : Nat) (p0 : Int32) (p1 : Int32) (p2 : Int32) (p3 : Int64) (nn : Nat) : Int32 → (Nat → Nat → Int64) → (Nat → Nat → Int64) := @Nat.rec (fun _ => Int32 → (Nat → Nat → Int64) → (Nat → Nat → Int64)) (fun _ _ => default) (fun _ lb20 (y7_20 : Int32) (f_20 : Nat → Nat → Int64) => (if (r (2 * i)) ≤ y7_20 then f_20 else (if p0 = 0 then bnd1 (D_X3_get r q f_20 i p1 y7_20) (fun (x75 : Int64) => bnd1 (D_X3_get r q f_20 i p2 y7_20) (fun (x77 : Int64) => bnd1 (D_X3_set r q f_20 i p1 y7_20 (x75 + (p3 * x77))) (fun (f79 : Nat → Nat → Int64) => (lb20 (y7_20 + 1) f79)))) else bnd1 (D_X3_get r q f_20 i y7_20 p1) (fun (x81 : Int64) => bnd1 (D_X3_get r q f_20 i y7_20 p2) (fun (x83 : Int64) => bnd1 (D_X3_set r q f_20 i y7_20 p1 (x81 + (p3 * x83))) (fun (f85 : Nat → Nat → Int64) => (lb20 (y7_20 + 1) f85))))))) nn
theorem D_X3_addLine_20_1_s {r : Nat → Int32} {q : Nat → Int32} {i : Nat} {p0 : Int32} {p1 : Int32} {p2 : Int32} {p3 : Int64} {nn : Nat} {y7_20 : Int32} {f_20 : Nat → Nat → Int64} : D_X3_addLine_20_1 r q i p0 p1 p2 p3 (nn + 1) y7_20 f_20 = (if (r (2 * i)) ≤ y7_20 then f_20 else (if p0 = 0 then bnd1 (D_X3_get r q f_20 i p1 y7_20) (fun (x75 : Int64) => bnd1 (D_X3_get r q f_20 i p2 y7_20) (fun (x77 : Int64) => bnd1 (D_X3_set r q f_20 i p1 y7_20 (x75 + (p3 * x77))) (fun (f79 : Nat → Nat → Int64) => ((D_X3_addLine_20_1 r q i p0 p1 p2 p3 nn) (y7_20 + 1) f79)))) else bnd1 (D_X3_get r q f_20 i y7_20 p1) (fun (x81 : Int64) => bnd1 (D_X3_get r q f_20 i y7_20 p2) (fun (x83 : Int64) => bnd1 (D_X3_set r q f_20 i y7_20 p1 (x81 + (p3 * x83))) (fun (f85 : Nat → Nat → Int64) => ((D_X3_addLine_20_1 r q i p0 p1 p2 p3 nn) (y7_20 + 1) f85)))))) := rfl
noncomputable def D_X3_addLine (r : Nat → Int32) (q : Nat → Int32) (f : Nat → Nat → Int64) (i : Nat) (p0 : Int32) (p1 : Int32) (p2 : Int32) (p3 : Int64) : (Nat → Nat → Int64) := (if p0 = 0 then (D_X3_addLine_20 r q i p0 p1 p2 p3 (gap (r (2 * i + 1)) 0 + 1) 0 f) else (D_X3_addLine_20_1 r q i p0 p1 p2 p3 (gap (r (2 * i)) 0 + 1) 0 f))
theorem D_X3_addLine_s {r : Nat → Int32} {q : Nat → Int32} {f : Nat → Nat → Int64} {i : Nat} {p0 : Int32} {p1 : Int32} {p2 : Int32} {p3 : Int64} : D_X3_addLine r q f i p0 p1 p2 p3 = (if p0 = 0 then (D_X3_addLine_20 r q i p0 p1 p2 p3 (gap (r (2 * i + 1)) 0 + 1) 0 f) else (D_X3_addLine_20_1 r q i p0 p1 p2 p3 (gap (r (2 * i)) 0 + 1) 0 f)) := rfl
set_option maxHeartbeats 4000000 in
set_option maxRecDepth 100000 in
theorem k_X3_addLine (κ : Kt) (l : Launch) (a : Nat → Nat) (r q : Nat → Int32) (f : Nat → Nat → Int64) (i : Nat) (p0 : Int32) (p1 : Int32) (p2 : Int32) (p3 : Int64) (hi : i < 15) (o_f : Nat → Nat → Int64) (hR : D_X3_addLine r q f i p0 p1 p2 p3 = o_f) : CM κ l yX3_addLine cX3_addLine 8 (none) 1 24 0 0 [.ref (a (6 + 2 * i)), .int p0, .int p1, .int p2, .long p3] (cw κ a r q f) (fun o w' => o = none ∧ w' = cw κ a r q o_f) := by
  refine CM_begin (plainFor_of_name (by decide)) (Nat.le_of_ble_eq_true rfl) ?_
  intro p e s m args below meth c A Q hX hnm hA3 hQ hB ls hl
  have hx := hX.1.1
  have hb := hX.1.2.1
  have hl : lv_has ls 8 [(0, .ref (a (6 + 2 * i))), (1, .int p0), (2, .int p1), (3, .int p2), (4, .long p3)] := hl
  replace hR := (D_X3_addLine_s).symm.trans hR
  refine lv_iload_n hx hb dX3_addLine_0 rfl (lv_at hl 1 rfl) ?_
  refine lv_if_eq (tgt := 11) hx hb dX3_addLine_1 (by decide) (fun c1 => ?_) (fun c1 => ?_)
  · replace hR := ifp c1 hR
    refine lv_aload_n hx hb dX3_addLine_11 rfl (lv_at hl 0 rfl) ?_
    refine gf hX hB (cwG (i := i) hi) rfl in3 2 (by decide) wm_1_52 rfl rfl dX3_addLine_12 ?_
    refine lv_istore (lv' := [(6, .int (r (2 * i + 1))), (0, .ref (a (6 + 2 * i))), (1, .int p0), (2, .int p1), (3, .int p2), (4, .long p3)]) hx hb dX3_addLine_15 hl (by decide) rfl (fun ls hl => ?_)
    refine lv_iconst (v := 0) hx hb dX3_addLine_17 (by decide) ?_
    refine lv_istore (lv' := [(7, .int 0), (6, .int (r (2 * i + 1))), (0, .ref (a (6 + 2 * i))), (1, .int p0), (2, .int p1), (3, .int p2), (4, .long p3)]) hx hb dX3_addLine_18 hl (by decide) rfl (fun ls hl => ?_)
    have lp20 : ∀ (nn20 : Nat) (y7_20 : Int32) (f_20 : Nat → Nat → Int64) (H : Heap) (locs : List Loc), gap (r (2 * i + 1)) y7_20 < nn20 → D_X3_addLine_20 r q i p0 p1 p2 p3 nn20 y7_20 f_20 = o_f → Bd κ A s (cw κ a r q f_20) H locs → ∀ ls : Array Slot, lv_has ls 8 [(7, .int y7_20), (6, .int (r (2 * i + 1))), (0, .ref (a (6 + 2 * i))), (1, .int p0), (2, .int p1), (3, .int p2), (4, .long p3)] → W p l e (Rm 1 24 0 0) s m args below meth c H locs 0 0 Q (F0 m 20 ls []) := by
      intro nn20
      induction nn20 with
      | zero => intro y7_20 f_20 H locs hμ; exact absurd hμ (Nat.not_lt_zero _)
      | succ nn20 ih20 =>
        intro y7_20 f_20 H locs hμ20 hR hB ls hl
        replace hR := (D_X3_addLine_20_s).symm.trans hR
        refine lv_iload hx hb dX3_addLine_20 (lv_at hl 0 rfl) ?_
        refine lv_iload hx hb dX3_addLine_22 (lv_at hl 1 rfl) ?_
        refine lv_icmp_ge (tgt := 90) hx hb dX3_addLine_24 (by decide) (fun c30 => ?_) (fun c30 => ?_)
        · replace hR := ifp c30 hR
          rw [← hQ]
          exact end_v hX hB hA3 rfl (by obtain rfl := hR; exact ⟨rfl, rfl⟩) (Nat.le_of_ble_eq_true rfl) (Nat.le_of_ble_eq_true rfl) dX3_addLine_90
        · replace hR := ifn c30 hR
          refine lv_iload_n hx hb dX3_addLine_27 rfl (lv_at hl 3 rfl) ?_
          refine lv_if_eq (tgt := 59) hx hb dX3_addLine_28 (by decide) (fun c31 => ?_) (fun c31 => ?_)
          · replace hR := ifp c31 hR
            refine lv_aload_n hx hb dX3_addLine_59 rfl (lv_at hl 2 rfl) ?_
            refine lv_iload_n hx hb dX3_addLine_60 rfl (lv_at hl 4 rfl) ?_
            refine lv_iload hx hb dX3_addLine_61 (lv_at hl 0 rfl) ?_
            refine lv_aload_n hx hb dX3_addLine_63 rfl (lv_at hl 2 rfl) ?_
            refine lv_iload_n hx hb dX3_addLine_64 rfl (lv_at hl 4 rfl) ?_
            refine lv_iload hx hb dX3_addLine_65 (lv_at hl 0 rfl) ?_
            obtain ⟨x33, hd32⟩ := ex1 (D_X3_get r q f_20 i p1 y7_20)
            replace hR := bnd1_use hd32 hR
            refine call_V (n := 2) (As := [.int p1, .int y7_20]) (rest := [.int y7_20, .int p1, .ref (a (6 + 2 * i))]) hX hB (k_X3_get κ l a r q f_20 i p1 y7_20 hi x33 hd32) ⟨rfl, by decide, by decide, by decide +kernel⟩ wm_2_7 wm_1_187 wm_1_188 wm_1_2 wm_1_189 ⟨Nat.le_of_ble_eq_true rfl, Nat.le_of_ble_eq_true rfl⟩ ⟨Nat.le_of_ble_eq_true rfl, Nat.le_of_ble_eq_true rfl⟩ (cwG (i := i) hi) rfl rfl rfl hl.1 rfl (Nat.le_of_ble_eq_true rfl) dX3_addLine_67 (fun o w' H locs hp hB => ?_)
            obtain ⟨rfl, rfl⟩ := hp
            refine W.eq (g2 := F0 m 70 ls [.long x33, .int y7_20, .int p1, .ref (a (6 + 2 * i))]) rfl ?_
            refine lv_lload hx hb dX3_addLine_70 (lv_at hl 6 rfl) ?_
            refine lv_aload_n hx hb dX3_addLine_72 rfl (lv_at hl 2 rfl) ?_
            refine lv_iload_n hx hb dX3_addLine_73 rfl (lv_at hl 5 rfl) ?_
            refine lv_iload hx hb dX3_addLine_74 (lv_at hl 0 rfl) ?_
            obtain ⟨x35, hd34⟩ := ex1 (D_X3_get r q f_20 i p2 y7_20)
            replace hR := bnd1_use hd34 hR
            refine call_V (n := 2) (As := [.int p2, .int y7_20]) (rest := [.long p3, .long x33, .int y7_20, .int p1, .ref (a (6 + 2 * i))]) hX hB (k_X3_get κ l a r q f_20 i p2 y7_20 hi x35 hd34) ⟨rfl, by decide, by decide, by decide +kernel⟩ wm_2_7 wm_1_187 wm_1_188 wm_1_2 wm_1_189 ⟨Nat.le_of_ble_eq_true rfl, Nat.le_of_ble_eq_true rfl⟩ ⟨Nat.le_of_ble_eq_true rfl, Nat.le_of_ble_eq_true rfl⟩ (cwG (i := i) hi) rfl rfl rfl hl.1 rfl (Nat.le_of_ble_eq_true rfl) dX3_addLine_76 (fun o w' H locs hp hB => ?_)
            obtain ⟨rfl, rfl⟩ := hp
            refine W.eq (g2 := F0 m 79 ls [.long x35, .long p3, .long x33, .int y7_20, .int p1, .ref (a (6 + 2 * i))]) rfl ?_
            refine lv_lmul hx hb dX3_addLine_79 ?_
            refine lv_ladd hx hb dX3_addLine_80 ?_
            obtain ⟨f37, hd36⟩ := ex1 (D_X3_set r q f_20 i p1 y7_20 (x33 + (p3 * x35)))
            replace hR := bnd1_use hd36 hR
            refine call_V (n := 3) (As := [.int p1, .int y7_20, .long (x33 + (p3 * x35))]) (rest := []) hX hB (k_X3_set κ l a r q f_20 i p1 y7_20 (x33 + (p3 * x35)) hi f37 hd36) ⟨rfl, by decide, by decide, by decide +kernel⟩ wm_1_222 wm_1_223 wm_1_224 wm_1_2 wm_1_225 ⟨Nat.le_of_ble_eq_true rfl, Nat.le_of_ble_eq_true rfl⟩ ⟨Nat.le_of_ble_eq_true rfl, Nat.le_of_ble_eq_true rfl⟩ (cwG (i := i) hi) rfl rfl rfl hl.1 rfl (Nat.le_of_ble_eq_true rfl) dX3_addLine_81 (fun o w' H locs hp hB => ?_)
            obtain ⟨rfl, rfl⟩ := hp
            refine W.eq (g2 := F0 m 84 ls []) rfl ?_
            refine lv_iinc (v := y7_20 + 1) (lv' := [(7, .int (y7_20 + 1)), (6, .int (r (2 * i + 1))), (0, .ref (a (6 + 2 * i))), (1, .int p0), (2, .int p1), (3, .int p2), (4, .long p3)]) hx hb dX3_addLine_84 hl (k := 0) rfl rfl (by decide) rfl (fun ls hl => ?_)
            refine lv_goto (tgt := 20) hx hb dX3_addLine_87 (by decide) ?_
            exact ih20 (y7_20 + 1) f37 _ _  (gap_step c30 hμ20) hR hB _ hl
          · replace hR := ifn c31 hR
            refine lv_aload_n hx hb dX3_addLine_31 rfl (lv_at hl 2 rfl) ?_
            refine lv_iload hx hb dX3_addLine_32 (lv_at hl 0 rfl) ?_
            refine lv_iload_n hx hb dX3_addLine_34 rfl (lv_at hl 4 rfl) ?_
            refine lv_aload_n hx hb dX3_addLine_35 rfl (lv_at hl 2 rfl) ?_
            refine lv_iload hx hb dX3_addLine_36 (lv_at hl 0 rfl) ?_
            refine lv_iload_n hx hb dX3_addLine_38 rfl (lv_at hl 4 rfl) ?_
            obtain ⟨x39, hd38⟩ := ex1 (D_X3_get r q f_20 i y7_20 p1)
            replace hR := bnd1_use hd38 hR
            refine call_V (n := 2) (As := [.int y7_20, .int p1]) (rest := [.int p1, .int y7_20, .ref (a (6 + 2 * i))]) hX hB (k_X3_get κ l a r q f_20 i y7_20 p1 hi x39 hd38) ⟨rfl, by decide, by decide, by decide +kernel⟩ wm_2_7 wm_1_187 wm_1_188 wm_1_2 wm_1_189 ⟨Nat.le_of_ble_eq_true rfl, Nat.le_of_ble_eq_true rfl⟩ ⟨Nat.le_of_ble_eq_true rfl, Nat.le_of_ble_eq_true rfl⟩ (cwG (i := i) hi) rfl rfl rfl hl.1 rfl (Nat.le_of_ble_eq_true rfl) dX3_addLine_39 (fun o w' H locs hp hB => ?_)
            obtain ⟨rfl, rfl⟩ := hp
            refine W.eq (g2 := F0 m 42 ls [.long x39, .int p1, .int y7_20, .ref (a (6 + 2 * i))]) rfl ?_
            refine lv_lload hx hb dX3_addLine_42 (lv_at hl 6 rfl) ?_
            refine lv_aload_n hx hb dX3_addLine_44 rfl (lv_at hl 2 rfl) ?_
            refine lv_iload hx hb dX3_addLine_45 (lv_at hl 0 rfl) ?_
            refine lv_iload_n hx hb dX3_addLine_47 rfl (lv_at hl 5 rfl) ?_
            obtain ⟨x41, hd40⟩ := ex1 (D_X3_get r q f_20 i y7_20 p2)
            replace hR := bnd1_use hd40 hR
            refine call_V (n := 2) (As := [.int y7_20, .int p2]) (rest := [.long p3, .long x39, .int p1, .int y7_20, .ref (a (6 + 2 * i))]) hX hB (k_X3_get κ l a r q f_20 i y7_20 p2 hi x41 hd40) ⟨rfl, by decide, by decide, by decide +kernel⟩ wm_2_7 wm_1_187 wm_1_188 wm_1_2 wm_1_189 ⟨Nat.le_of_ble_eq_true rfl, Nat.le_of_ble_eq_true rfl⟩ ⟨Nat.le_of_ble_eq_true rfl, Nat.le_of_ble_eq_true rfl⟩ (cwG (i := i) hi) rfl rfl rfl hl.1 rfl (Nat.le_of_ble_eq_true rfl) dX3_addLine_48 (fun o w' H locs hp hB => ?_)
            obtain ⟨rfl, rfl⟩ := hp
            refine W.eq (g2 := F0 m 51 ls [.long x41, .long p3, .long x39, .int p1, .int y7_20, .ref (a (6 + 2 * i))]) rfl ?_
            refine lv_lmul hx hb dX3_addLine_51 ?_
            refine lv_ladd hx hb dX3_addLine_52 ?_
            obtain ⟨f43, hd42⟩ := ex1 (D_X3_set r q f_20 i y7_20 p1 (x39 + (p3 * x41)))
            replace hR := bnd1_use hd42 hR
            refine call_V (n := 3) (As := [.int y7_20, .int p1, .long (x39 + (p3 * x41))]) (rest := []) hX hB (k_X3_set κ l a r q f_20 i y7_20 p1 (x39 + (p3 * x41)) hi f43 hd42) ⟨rfl, by decide, by decide, by decide +kernel⟩ wm_1_222 wm_1_223 wm_1_224 wm_1_2 wm_1_225 ⟨Nat.le_of_ble_eq_true rfl, Nat.le_of_ble_eq_true rfl⟩ ⟨Nat.le_of_ble_eq_true rfl, Nat.le_of_ble_eq_true rfl⟩ (cwG (i := i) hi) rfl rfl rfl hl.1 rfl (Nat.le_of_ble_eq_true rfl) dX3_addLine_53 (fun o w' H locs hp hB => ?_)
            obtain ⟨rfl, rfl⟩ := hp
            refine W.eq (g2 := F0 m 56 ls []) rfl ?_
            refine lv_goto (tgt := 84) hx hb dX3_addLine_56 (by decide) ?_
            refine lv_iinc (v := y7_20 + 1) (lv' := [(7, .int (y7_20 + 1)), (6, .int (r (2 * i + 1))), (0, .ref (a (6 + 2 * i))), (1, .int p0), (2, .int p1), (3, .int p2), (4, .long p3)]) hx hb dX3_addLine_84 hl (k := 0) rfl rfl (by decide) rfl (fun ls hl => ?_)
            refine lv_goto (tgt := 20) hx hb dX3_addLine_87 (by decide) ?_
            exact ih20 (y7_20 + 1) f43 _ _  (gap_step c30 hμ20) hR hB _ hl
    exact lp20 _ 0 f _ _  (Nat.lt_succ_self _) hR hB _ hl
  · replace hR := ifn c1 hR
    refine lv_aload_n hx hb dX3_addLine_4 rfl (lv_at hl 0 rfl) ?_
    refine gf hX hB (cwG (i := i) hi) rfl in3 1 (by decide) wm_1_46 rfl rfl dX3_addLine_5 ?_
    refine lv_goto (tgt := 15) hx hb dX3_addLine_8 (by decide) ?_
    refine lv_istore (lv' := [(6, .int (r (2 * i))), (0, .ref (a (6 + 2 * i))), (1, .int p0), (2, .int p1), (3, .int p2), (4, .long p3)]) hx hb dX3_addLine_15 hl (by decide) rfl (fun ls hl => ?_)
    refine lv_iconst (v := 0) hx hb dX3_addLine_17 (by decide) ?_
    refine lv_istore (lv' := [(7, .int 0), (6, .int (r (2 * i))), (0, .ref (a (6 + 2 * i))), (1, .int p0), (2, .int p1), (3, .int p2), (4, .long p3)]) hx hb dX3_addLine_18 hl (by decide) rfl (fun ls hl => ?_)
    have lp20 : ∀ (nn20 : Nat) (y7_20 : Int32) (f_20 : Nat → Nat → Int64) (H : Heap) (locs : List Loc), gap (r (2 * i)) y7_20 < nn20 → D_X3_addLine_20_1 r q i p0 p1 p2 p3 nn20 y7_20 f_20 = o_f → Bd κ A s (cw κ a r q f_20) H locs → ∀ ls : Array Slot, lv_has ls 8 [(7, .int y7_20), (6, .int (r (2 * i))), (0, .ref (a (6 + 2 * i))), (1, .int p0), (2, .int p1), (3, .int p2), (4, .long p3)] → W p l e (Rm 1 24 0 0) s m args below meth c H locs 0 0 Q (F0 m 20 ls []) := by
      intro nn20
      induction nn20 with
      | zero => intro y7_20 f_20 H locs hμ; exact absurd hμ (Nat.not_lt_zero _)
      | succ nn20 ih20 =>
        intro y7_20 f_20 H locs hμ20 hR hB ls hl
        replace hR := (D_X3_addLine_20_1_s).symm.trans hR
        refine lv_iload hx hb dX3_addLine_20 (lv_at hl 0 rfl) ?_
        refine lv_iload hx hb dX3_addLine_22 (lv_at hl 1 rfl) ?_
        refine lv_icmp_ge (tgt := 90) hx hb dX3_addLine_24 (by decide) (fun c72 => ?_) (fun c72 => ?_)
        · replace hR := ifp c72 hR
          rw [← hQ]
          exact end_v hX hB hA3 rfl (by obtain rfl := hR; exact ⟨rfl, rfl⟩) (Nat.le_of_ble_eq_true rfl) (Nat.le_of_ble_eq_true rfl) dX3_addLine_90
        · replace hR := ifn c72 hR
          refine lv_iload_n hx hb dX3_addLine_27 rfl (lv_at hl 3 rfl) ?_
          refine lv_if_eq (tgt := 59) hx hb dX3_addLine_28 (by decide) (fun c73 => ?_) (fun c73 => ?_)
          · replace hR := ifp c73 hR
            refine lv_aload_n hx hb dX3_addLine_59 rfl (lv_at hl 2 rfl) ?_
            refine lv_iload_n hx hb dX3_addLine_60 rfl (lv_at hl 4 rfl) ?_
            refine lv_iload hx hb dX3_addLine_61 (lv_at hl 0 rfl) ?_
            refine lv_aload_n hx hb dX3_addLine_63 rfl (lv_at hl 2 rfl) ?_
            refine lv_iload_n hx hb dX3_addLine_64 rfl (lv_at hl 4 rfl) ?_
            refine lv_iload hx hb dX3_addLine_65 (lv_at hl 0 rfl) ?_
            obtain ⟨x75, hd74⟩ := ex1 (D_X3_get r q f_20 i p1 y7_20)
            replace hR := bnd1_use hd74 hR
            refine call_V (n := 2) (As := [.int p1, .int y7_20]) (rest := [.int y7_20, .int p1, .ref (a (6 + 2 * i))]) hX hB (k_X3_get κ l a r q f_20 i p1 y7_20 hi x75 hd74) ⟨rfl, by decide, by decide, by decide +kernel⟩ wm_2_7 wm_1_187 wm_1_188 wm_1_2 wm_1_189 ⟨Nat.le_of_ble_eq_true rfl, Nat.le_of_ble_eq_true rfl⟩ ⟨Nat.le_of_ble_eq_true rfl, Nat.le_of_ble_eq_true rfl⟩ (cwG (i := i) hi) rfl rfl rfl hl.1 rfl (Nat.le_of_ble_eq_true rfl) dX3_addLine_67 (fun o w' H locs hp hB => ?_)
            obtain ⟨rfl, rfl⟩ := hp
            refine W.eq (g2 := F0 m 70 ls [.long x75, .int y7_20, .int p1, .ref (a (6 + 2 * i))]) rfl ?_
            refine lv_lload hx hb dX3_addLine_70 (lv_at hl 6 rfl) ?_
            refine lv_aload_n hx hb dX3_addLine_72 rfl (lv_at hl 2 rfl) ?_
            refine lv_iload_n hx hb dX3_addLine_73 rfl (lv_at hl 5 rfl) ?_
            refine lv_iload hx hb dX3_addLine_74 (lv_at hl 0 rfl) ?_
            obtain ⟨x77, hd76⟩ := ex1 (D_X3_get r q f_20 i p2 y7_20)
            replace hR := bnd1_use hd76 hR
            refine call_V (n := 2) (As := [.int p2, .int y7_20]) (rest := [.long p3, .long x75, .int y7_20, .int p1, .ref (a (6 + 2 * i))]) hX hB (k_X3_get κ l a r q f_20 i p2 y7_20 hi x77 hd76) ⟨rfl, by decide, by decide, by decide +kernel⟩ wm_2_7 wm_1_187 wm_1_188 wm_1_2 wm_1_189 ⟨Nat.le_of_ble_eq_true rfl, Nat.le_of_ble_eq_true rfl⟩ ⟨Nat.le_of_ble_eq_true rfl, Nat.le_of_ble_eq_true rfl⟩ (cwG (i := i) hi) rfl rfl rfl hl.1 rfl (Nat.le_of_ble_eq_true rfl) dX3_addLine_76 (fun o w' H locs hp hB => ?_)
            obtain ⟨rfl, rfl⟩ := hp
            refine W.eq (g2 := F0 m 79 ls [.long x77, .long p3, .long x75, .int y7_20, .int p1, .ref (a (6 + 2 * i))]) rfl ?_
            refine lv_lmul hx hb dX3_addLine_79 ?_
            refine lv_ladd hx hb dX3_addLine_80 ?_
            obtain ⟨f79, hd78⟩ := ex1 (D_X3_set r q f_20 i p1 y7_20 (x75 + (p3 * x77)))
            replace hR := bnd1_use hd78 hR
            refine call_V (n := 3) (As := [.int p1, .int y7_20, .long (x75 + (p3 * x77))]) (rest := []) hX hB (k_X3_set κ l a r q f_20 i p1 y7_20 (x75 + (p3 * x77)) hi f79 hd78) ⟨rfl, by decide, by decide, by decide +kernel⟩ wm_1_222 wm_1_223 wm_1_224 wm_1_2 wm_1_225 ⟨Nat.le_of_ble_eq_true rfl, Nat.le_of_ble_eq_true rfl⟩ ⟨Nat.le_of_ble_eq_true rfl, Nat.le_of_ble_eq_true rfl⟩ (cwG (i := i) hi) rfl rfl rfl hl.1 rfl (Nat.le_of_ble_eq_true rfl) dX3_addLine_81 (fun o w' H locs hp hB => ?_)
            obtain ⟨rfl, rfl⟩ := hp
            refine W.eq (g2 := F0 m 84 ls []) rfl ?_
            refine lv_iinc (v := y7_20 + 1) (lv' := [(7, .int (y7_20 + 1)), (6, .int (r (2 * i))), (0, .ref (a (6 + 2 * i))), (1, .int p0), (2, .int p1), (3, .int p2), (4, .long p3)]) hx hb dX3_addLine_84 hl (k := 0) rfl rfl (by decide) rfl (fun ls hl => ?_)
            refine lv_goto (tgt := 20) hx hb dX3_addLine_87 (by decide) ?_
            exact ih20 (y7_20 + 1) f79 _ _  (gap_step c72 hμ20) hR hB _ hl
          · replace hR := ifn c73 hR
            refine lv_aload_n hx hb dX3_addLine_31 rfl (lv_at hl 2 rfl) ?_
            refine lv_iload hx hb dX3_addLine_32 (lv_at hl 0 rfl) ?_
            refine lv_iload_n hx hb dX3_addLine_34 rfl (lv_at hl 4 rfl) ?_
            refine lv_aload_n hx hb dX3_addLine_35 rfl (lv_at hl 2 rfl) ?_
            refine lv_iload hx hb dX3_addLine_36 (lv_at hl 0 rfl) ?_
            refine lv_iload_n hx hb dX3_addLine_38 rfl (lv_at hl 4 rfl) ?_
            obtain ⟨x81, hd80⟩ := ex1 (D_X3_get r q f_20 i y7_20 p1)
            replace hR := bnd1_use hd80 hR
            refine call_V (n := 2) (As := [.int y7_20, .int p1]) (rest := [.int p1, .int y7_20, .ref (a (6 + 2 * i))]) hX hB (k_X3_get κ l a r q f_20 i y7_20 p1 hi x81 hd80) ⟨rfl, by decide, by decide, by decide +kernel⟩ wm_2_7 wm_1_187 wm_1_188 wm_1_2 wm_1_189 ⟨Nat.le_of_ble_eq_true rfl, Nat.le_of_ble_eq_true rfl⟩ ⟨Nat.le_of_ble_eq_true rfl, Nat.le_of_ble_eq_true rfl⟩ (cwG (i := i) hi) rfl rfl rfl hl.1 rfl (Nat.le_of_ble_eq_true rfl) dX3_addLine_39 (fun o w' H locs hp hB => ?_)
            obtain ⟨rfl, rfl⟩ := hp
            refine W.eq (g2 := F0 m 42 ls [.long x81, .int p1, .int y7_20, .ref (a (6 + 2 * i))]) rfl ?_
            refine lv_lload hx hb dX3_addLine_42 (lv_at hl 6 rfl) ?_
            refine lv_aload_n hx hb dX3_addLine_44 rfl (lv_at hl 2 rfl) ?_
            refine lv_iload hx hb dX3_addLine_45 (lv_at hl 0 rfl) ?_
            refine lv_iload_n hx hb dX3_addLine_47 rfl (lv_at hl 5 rfl) ?_
            obtain ⟨x83, hd82⟩ := ex1 (D_X3_get r q f_20 i y7_20 p2)
            replace hR := bnd1_use hd82 hR
            refine call_V (n := 2) (As := [.int y7_20, .int p2]) (rest := [.long p3, .long x81, .int p1, .int y7_20, .ref (a (6 + 2 * i))]) hX hB (k_X3_get κ l a r q f_20 i y7_20 p2 hi x83 hd82) ⟨rfl, by decide, by decide, by decide +kernel⟩ wm_2_7 wm_1_187 wm_1_188 wm_1_2 wm_1_189 ⟨Nat.le_of_ble_eq_true rfl, Nat.le_of_ble_eq_true rfl⟩ ⟨Nat.le_of_ble_eq_true rfl, Nat.le_of_ble_eq_true rfl⟩ (cwG (i := i) hi) rfl rfl rfl hl.1 rfl (Nat.le_of_ble_eq_true rfl) dX3_addLine_48 (fun o w' H locs hp hB => ?_)
            obtain ⟨rfl, rfl⟩ := hp
            refine W.eq (g2 := F0 m 51 ls [.long x83, .long p3, .long x81, .int p1, .int y7_20, .ref (a (6 + 2 * i))]) rfl ?_
            refine lv_lmul hx hb dX3_addLine_51 ?_
            refine lv_ladd hx hb dX3_addLine_52 ?_
            obtain ⟨f85, hd84⟩ := ex1 (D_X3_set r q f_20 i y7_20 p1 (x81 + (p3 * x83)))
            replace hR := bnd1_use hd84 hR
            refine call_V (n := 3) (As := [.int y7_20, .int p1, .long (x81 + (p3 * x83))]) (rest := []) hX hB (k_X3_set κ l a r q f_20 i y7_20 p1 (x81 + (p3 * x83)) hi f85 hd84) ⟨rfl, by decide, by decide, by decide +kernel⟩ wm_1_222 wm_1_223 wm_1_224 wm_1_2 wm_1_225 ⟨Nat.le_of_ble_eq_true rfl, Nat.le_of_ble_eq_true rfl⟩ ⟨Nat.le_of_ble_eq_true rfl, Nat.le_of_ble_eq_true rfl⟩ (cwG (i := i) hi) rfl rfl rfl hl.1 rfl (Nat.le_of_ble_eq_true rfl) dX3_addLine_53 (fun o w' H locs hp hB => ?_)
            obtain ⟨rfl, rfl⟩ := hp
            refine W.eq (g2 := F0 m 56 ls []) rfl ?_
            refine lv_goto (tgt := 84) hx hb dX3_addLine_56 (by decide) ?_
            refine lv_iinc (v := y7_20 + 1) (lv' := [(7, .int (y7_20 + 1)), (6, .int (r (2 * i))), (0, .ref (a (6 + 2 * i))), (1, .int p0), (2, .int p1), (3, .int p2), (4, .long p3)]) hx hb dX3_addLine_84 hl (k := 0) rfl rfl (by decide) rfl (fun ls hl => ?_)
            refine lv_goto (tgt := 20) hx hb dX3_addLine_87 (by decide) ?_
            exact ih20 (y7_20 + 1) f85 _ _  (gap_step c72 hμ20) hR hB _ hl
    exact lp20 _ 0 f _ _  (Nat.lt_succ_self _) hR hB _ hl
noncomputable def D_X3_countUnlike_15 (r : Nat → Int32) (q : Nat → Int32) (f : Nat → Nat → Int64) (i : Nat) (j : Nat) (lb4 : Int32 → Int32 → Int32) (y3_4 : Int32) (nn : Nat) : Int32 → Int32 → Int32 := @Nat.rec (fun _ => Int32 → Int32 → Int32) (fun _ _ => default) (fun _ lb15 (y4_15 : Int32) (y2_15 : Int32) => (if (r (2 * i + 1)) ≤ y4_15 then (lb4 (y3_4 + 1) y2_15) else bnd1 (D_X3_get r q f i y3_4 y4_15) (fun (x54 : Int64) => bnd1 (D_X3_get r q f j y3_4 y4_15) (fun (x56 : Int64) => (if (lg_cmp x54 x56) = 0 then (lb15 (y4_15 + 1) y2_15) else (lb15 (y4_15 + 1) (y2_15 + 1))))))) nn
theorem D_X3_countUnlike_15_s {r : Nat → Int32} {q : Nat → Int32} {f : Nat → Nat → Int64} {i : Nat} {j : Nat} {lb4 : Int32 → Int32 → Int32} {y3_4 : Int32} {nn : Nat} {y4_15 : Int32} {y2_15 : Int32} : D_X3_countUnlike_15 r q f i j lb4 y3_4 (nn + 1) y4_15 y2_15 = (if (r (2 * i + 1)) ≤ y4_15 then (lb4 (y3_4 + 1) y2_15) else bnd1 (D_X3_get r q f i y3_4 y4_15) (fun (x54 : Int64) => bnd1 (D_X3_get r q f j y3_4 y4_15) (fun (x56 : Int64) => (if (lg_cmp x54 x56) = 0 then ((D_X3_countUnlike_15 r q f i j lb4 y3_4 nn) (y4_15 + 1) y2_15) else ((D_X3_countUnlike_15 r q f i j lb4 y3_4 nn) (y4_15 + 1) (y2_15 + 1)))))) := rfl
noncomputable def D_X3_countUnlike_4 (r : Nat → Int32) (q : Nat → Int32) (f : Nat → Nat → Int64) (i : Nat) (j : Nat) (nn : Nat) : Int32 → Int32 → Int32 := @Nat.rec (fun _ => Int32 → Int32 → Int32) (fun _ _ => default) (fun _ lb4 (y3_4 : Int32) (y2_4 : Int32) => (if (r (2 * i)) ≤ y3_4 then y2_4 else (D_X3_countUnlike_15 r q f i j lb4 y3_4 (gap (r (2 * i + 1)) 0 + 1) 0 y2_4))) nn
theorem D_X3_countUnlike_4_s {r : Nat → Int32} {q : Nat → Int32} {f : Nat → Nat → Int64} {i : Nat} {j : Nat} {nn : Nat} {y3_4 : Int32} {y2_4 : Int32} : D_X3_countUnlike_4 r q f i j (nn + 1) y3_4 y2_4 = (if (r (2 * i)) ≤ y3_4 then y2_4 else (D_X3_countUnlike_15 r q f i j (D_X3_countUnlike_4 r q f i j nn) y3_4 (gap (r (2 * i + 1)) 0 + 1) 0 y2_4)) := rfl
noncomputable def D_X3_countUnlike (r : Nat → Int32) (q : Nat → Int32) (f : Nat → Nat → Int64) (i : Nat) (j : Nat) : Int32 := (D_X3_countUnlike_4 r q f i j (gap (r (2 * i)) 0 + 1) 0 0)
theorem D_X3_countUnlike_s {r : Nat → Int32} {q : Nat → Int32} {f : Nat → Nat → Int64} {i : Nat} {j : Nat} : D_X3_countUnlike r q f i j = (D_X3_countUnlike_4 r q f i j (gap (r (2 * i)) 0 + 1) 0 0) := rfl
set_option maxHeartbeats 4000000 in
set_option maxRecDepth 100000 in
theorem k_X3_countUnlike (κ : Kt) (l : Launch) (a : Nat → Nat) (r q : Nat → Int32) (f : Nat → Nat → Int64) (i : Nat) (j : Nat) (hi : i < 15) (hj : j < 15) (o_x : Int32) (hR : D_X3_countUnlike r q f i j = o_x) : CM κ l yX3_countUnlike cX3_countUnlike 5 (some .int) 1 22 0 0 [.ref (a (6 + 2 * i)), .ref (a (6 + 2 * j))] (cw κ a r q f) (fun o w' => o = some (.int o_x) ∧ w' = cw κ a r q f) := by
  refine CM_begin (plainFor_of_name (by decide)) (Nat.le_of_ble_eq_true rfl) ?_
  intro p e s m args below meth c A Q hX hnm hA3 hQ hB ls hl
  have hx := hX.1.1
  have hb := hX.1.2.1
  have hl : lv_has ls 5 [(0, .ref (a (6 + 2 * i))), (1, .ref (a (6 + 2 * j)))] := hl
  replace hR := (D_X3_countUnlike_s).symm.trans hR
  refine lv_iconst (v := 0) hx hb dX3_countUnlike_0 (by decide) ?_
  refine lv_istore_n (lv' := [(2, .int 0), (0, .ref (a (6 + 2 * i))), (1, .ref (a (6 + 2 * j)))]) hx hb dX3_countUnlike_1 rfl hl (by decide) rfl (fun ls hl => ?_)
  refine lv_iconst (v := 0) hx hb dX3_countUnlike_2 (by decide) ?_
  refine lv_istore_n (lv' := [(3, .int 0), (2, .int 0), (0, .ref (a (6 + 2 * i))), (1, .ref (a (6 + 2 * j)))]) hx hb dX3_countUnlike_3 rfl hl (by decide) rfl (fun ls hl => ?_)
  have lp4 : ∀ (nn4 : Nat) (y3_4 : Int32) (y2_4 : Int32) (H : Heap) (locs : List Loc), gap (r (2 * i)) y3_4 < nn4 → D_X3_countUnlike_4 r q f i j nn4 y3_4 y2_4 = o_x → Bd κ A s (cw κ a r q f) H locs → ∀ ls : Array Slot, lv_has ls 5 [(3, .int y3_4), (2, .int y2_4), (0, .ref (a (6 + 2 * i))), (1, .ref (a (6 + 2 * j)))] → W p l e (Rm 1 22 0 0) s m args below meth c H locs 0 0 Q (F0 m 4 ls []) := by
    intro nn4
    induction nn4 with
    | zero => intro y3_4 y2_4 H locs hμ; exact absurd hμ (Nat.not_lt_zero _)
    | succ nn4 ih4 =>
      intro y3_4 y2_4 H locs hμ4 hR hB ls hl
      replace hR := (D_X3_countUnlike_4_s).symm.trans hR
      refine lv_iload_n hx hb dX3_countUnlike_4 rfl (lv_at hl 0 rfl) ?_
      refine lv_aload_n hx hb dX3_countUnlike_5 rfl (lv_at hl 2 rfl) ?_
      refine gf hX hB (cwG (i := i) hi) rfl in3 1 (by decide) wm_1_46 rfl rfl dX3_countUnlike_6 ?_
      refine lv_icmp_ge (tgt := 57) hx hb dX3_countUnlike_9 (by decide) (fun c39 => ?_) (fun c39 => ?_)
      · replace hR := ifp c39 hR
        refine lv_iload_n hx hb dX3_countUnlike_57 rfl (lv_at hl 1 rfl) ?_
        rw [← hQ]
        exact end_i hX hB hA3 rfl rfl (by obtain rfl := hR; exact ⟨rfl, rfl⟩) (Nat.le_of_ble_eq_true rfl) (Nat.le_of_ble_eq_true rfl) dX3_countUnlike_58
      · replace hR := ifn c39 hR
        refine lv_iconst (v := 0) hx hb dX3_countUnlike_12 (by decide) ?_
        refine lv_istore (lv' := [(4, .int 0), (3, .int y3_4), (2, .int y2_4), (0, .ref (a (6 + 2 * i))), (1, .ref (a (6 + 2 * j)))]) hx hb dX3_countUnlike_13 hl (by decide) rfl (fun ls hl => ?_)
        have lp15 : ∀ (nn15 : Nat) (y4_15 : Int32) (y2_15 : Int32) (H : Heap) (locs : List Loc), gap (r (2 * i + 1)) y4_15 < nn15 → D_X3_countUnlike_15 r q f i j (D_X3_countUnlike_4 r q f i j nn4) y3_4 nn15 y4_15 y2_15 = o_x → Bd κ A s (cw κ a r q f) H locs → ∀ ls : Array Slot, lv_has ls 5 [(4, .int y4_15), (3, .int y3_4), (2, .int y2_15), (0, .ref (a (6 + 2 * i))), (1, .ref (a (6 + 2 * j)))] → W p l e (Rm 1 22 0 0) s m args below meth c H locs 0 0 Q (F0 m 15 ls []) := by
          intro nn15
          induction nn15 with
          | zero => intro y4_15 y2_15 H locs hμ; exact absurd hμ (Nat.not_lt_zero _)
          | succ nn15 ih15 =>
            intro y4_15 y2_15 H locs hμ15 hR hB ls hl
            replace hR := (D_X3_countUnlike_15_s).symm.trans hR
            refine lv_iload hx hb dX3_countUnlike_15 (lv_at hl 0 rfl) ?_
            refine lv_aload_n hx hb dX3_countUnlike_17 rfl (lv_at hl 3 rfl) ?_
            refine gf hX hB (cwG (i := i) hi) rfl in3 2 (by decide) wm_1_52 rfl rfl dX3_countUnlike_18 ?_
            refine lv_icmp_ge (tgt := 51) hx hb dX3_countUnlike_21 (by decide) (fun c52 => ?_) (fun c52 => ?_)
            · replace hR := ifp c52 hR
              refine lv_iinc (v := y3_4 + 1) (lv' := [(3, .int (y3_4 + 1)), (4, .int y4_15), (2, .int y2_15), (0, .ref (a (6 + 2 * i))), (1, .ref (a (6 + 2 * j)))]) hx hb dX3_countUnlike_51 hl (k := 1) rfl rfl (by decide) rfl (fun ls hl => ?_)
              refine lv_goto (tgt := 4) hx hb dX3_countUnlike_54 (by decide) ?_
              exact ih4 (y3_4 + 1) y2_15 _ _  (gap_step c39 hμ4) hR hB _ (lv_sub hl [0, 2, 3, 4] rfl)
            · replace hR := ifn c52 hR
              refine lv_aload_n hx hb dX3_countUnlike_24 rfl (lv_at hl 3 rfl) ?_
              refine lv_iload_n hx hb dX3_countUnlike_25 rfl (lv_at hl 1 rfl) ?_
              refine lv_iload hx hb dX3_countUnlike_26 (lv_at hl 0 rfl) ?_
              obtain ⟨x54, hd53⟩ := ex1 (D_X3_get r q f i y3_4 y4_15)
              replace hR := bnd1_use hd53 hR
              refine call_V (n := 2) (As := [.int y3_4, .int y4_15]) (rest := []) hX hB (k_X3_get κ l a r q f i y3_4 y4_15 hi x54 hd53) ⟨rfl, by decide, by decide, by decide +kernel⟩ wm_2_7 wm_1_187 wm_1_188 wm_1_2 wm_1_189 ⟨Nat.le_of_ble_eq_true rfl, Nat.le_of_ble_eq_true rfl⟩ ⟨Nat.le_of_ble_eq_true rfl, Nat.le_of_ble_eq_true rfl⟩ (cwG (i := i) hi) rfl rfl rfl hl.1 rfl (Nat.le_of_ble_eq_true rfl) dX3_countUnlike_28 (fun o w' H locs hp hB => ?_)
              obtain ⟨rfl, rfl⟩ := hp
              refine W.eq (g2 := F0 m 31 ls [.long x54]) rfl ?_
              refine lv_aload_n hx hb dX3_countUnlike_31 rfl (lv_at hl 4 rfl) ?_
              refine lv_iload_n hx hb dX3_countUnlike_32 rfl (lv_at hl 1 rfl) ?_
              refine lv_iload hx hb dX3_countUnlike_33 (lv_at hl 0 rfl) ?_
              obtain ⟨x56, hd55⟩ := ex1 (D_X3_get r q f j y3_4 y4_15)
              replace hR := bnd1_use hd55 hR
              refine call_V (n := 2) (As := [.int y3_4, .int y4_15]) (rest := [.long x54]) hX hB (k_X3_get κ l a r q f j y3_4 y4_15 hj x56 hd55) ⟨rfl, by decide, by decide, by decide +kernel⟩ wm_2_7 wm_1_187 wm_1_188 wm_1_2 wm_1_189 ⟨Nat.le_of_ble_eq_true rfl, Nat.le_of_ble_eq_true rfl⟩ ⟨Nat.le_of_ble_eq_true rfl, Nat.le_of_ble_eq_true rfl⟩ (cwG (i := j) hj) rfl rfl rfl hl.1 rfl (Nat.le_of_ble_eq_true rfl) dX3_countUnlike_35 (fun o w' H locs hp hB => ?_)
              obtain ⟨rfl, rfl⟩ := hp
              refine W.eq (g2 := F0 m 38 ls [.long x56, .long x54]) rfl ?_
              refine W.lcmp hx hb dX3_countUnlike_38 ?_
              refine lv_if_eq (tgt := 45) hx hb dX3_countUnlike_39 (by decide) (fun c57 => ?_) (fun c57 => ?_)
              · replace hR := ifp c57 hR
                refine lv_iinc (v := y4_15 + 1) (lv' := [(4, .int (y4_15 + 1)), (3, .int y3_4), (2, .int y2_15), (0, .ref (a (6 + 2 * i))), (1, .ref (a (6 + 2 * j)))]) hx hb dX3_countUnlike_45 hl (k := 0) rfl rfl (by decide) rfl (fun ls hl => ?_)
                refine lv_goto (tgt := 15) hx hb dX3_countUnlike_48 (by decide) ?_
                exact ih15 (y4_15 + 1) y2_15 _ _  (gap_step c52 hμ15) hR hB _ hl
              · replace hR := ifn c57 hR
                refine lv_iinc (v := y2_15 + 1) (lv' := [(2, .int (y2_15 + 1)), (4, .int y4_15), (3, .int y3_4), (0, .ref (a (6 + 2 * i))), (1, .ref (a (6 + 2 * j)))]) hx hb dX3_countUnlike_42 hl (k := 2) rfl rfl (by decide) rfl (fun ls hl => ?_)
                refine lv_iinc (v := y4_15 + 1) (lv' := [(4, .int (y4_15 + 1)), (2, .int (y2_15 + 1)), (3, .int y3_4), (0, .ref (a (6 + 2 * i))), (1, .ref (a (6 + 2 * j)))]) hx hb dX3_countUnlike_45 hl (k := 1) rfl rfl (by decide) rfl (fun ls hl => ?_)
                refine lv_goto (tgt := 15) hx hb dX3_countUnlike_48 (by decide) ?_
                exact ih15 (y4_15 + 1) (y2_15 + 1) _ _  (gap_step c52 hμ15) hR hB _ (lv_sub hl [0, 2, 1, 3, 4] rfl)
        exact lp15 _ 0 y2_4 _ _  (Nat.lt_succ_self _) hR hB _ hl
  exact lp4 _ 0 0 _ _  (Nat.lt_succ_self _) hR hB _ hl
noncomputable def D_X3_isLike (r : Nat → Int32) (q : Nat → Int32) (f : Nat → Nat → Int64) (i : Nat) (j : Nat) : Int32 := (if (r (2 * i)) = (r (2 * j)) then (if (r (2 * i + 1)) = (r (2 * j + 1)) then bnd1 (D_X3_countUnlike r q f i j) (fun (x4 : Int32) => (if x4 = 0 then 1 else 0)) else 0) else 0)
theorem D_X3_isLike_s {r : Nat → Int32} {q : Nat → Int32} {f : Nat → Nat → Int64} {i : Nat} {j : Nat} : D_X3_isLike r q f i j = (if (r (2 * i)) = (r (2 * j)) then (if (r (2 * i + 1)) = (r (2 * j + 1)) then bnd1 (D_X3_countUnlike r q f i j) (fun (x4 : Int32) => (if x4 = 0 then 1 else 0)) else 0) else 0) := rfl
set_option maxHeartbeats 4000000 in
set_option maxRecDepth 100000 in
theorem k_X3_isLike (κ : Kt) (l : Launch) (a : Nat → Nat) (r q : Nat → Int32) (f : Nat → Nat → Int64) (i : Nat) (j : Nat) (hi : i < 15) (hj : j < 15) (o_x : Int32) (hR : D_X3_isLike r q f i j = o_x) : CM κ l yX3_isLike cX3_isLike 2 (some .boolean) 2 46 0 0 [.ref (a (6 + 2 * i)), .ref (a (6 + 2 * j))] (cw κ a r q f) (fun o w' => o = some (.int o_x) ∧ (o_x = 0 ∨ o_x = 1) ∧ w' = cw κ a r q f) := by
  refine CM_begin (plainFor_of_name (by decide)) (Nat.le_of_ble_eq_true rfl) ?_
  intro p e s m args below meth c A Q hX hnm hA3 hQ hB ls hl
  have hx := hX.1.1
  have hb := hX.1.2.1
  have hl : lv_has ls 2 [(0, .ref (a (6 + 2 * i))), (1, .ref (a (6 + 2 * j)))] := hl
  replace hR := (D_X3_isLike_s).symm.trans hR
  refine lv_aload_n hx hb dX3_isLike_0 rfl (lv_at hl 0 rfl) ?_
  refine gf hX hB (cwG (i := i) hi) rfl in3 1 (by decide) wm_1_46 rfl rfl dX3_isLike_1 ?_
  refine lv_aload_n hx hb dX3_isLike_4 rfl (lv_at hl 1 rfl) ?_
  refine gf hX hB (cwG (i := j) hj) rfl in3 1 (by decide) wm_1_46 rfl rfl dX3_isLike_5 ?_
  refine lv_icmp_ne (tgt := 34) hx hb dX3_isLike_8 (by decide) (fun c1 => ?_) (fun c1 => ?_)
  · replace hR := ifn c1 hR
    refine lv_iconst (v := 0) hx hb dX3_isLike_34 (by decide) ?_
    rw [← hQ]
    exact end_i hX hB hA3 rfl rfl (by obtain rfl := hR; exact ⟨rfl, Or.inl rfl, rfl⟩) (Nat.le_of_ble_eq_true rfl) (Nat.le_of_ble_eq_true rfl) dX3_isLike_35
  · replace hR := ifp c1 hR
    refine lv_aload_n hx hb dX3_isLike_11 rfl (lv_at hl 0 rfl) ?_
    refine gf hX hB (cwG (i := i) hi) rfl in3 2 (by decide) wm_1_52 rfl rfl dX3_isLike_12 ?_
    refine lv_aload_n hx hb dX3_isLike_15 rfl (lv_at hl 1 rfl) ?_
    refine gf hX hB (cwG (i := j) hj) rfl in3 2 (by decide) wm_1_52 rfl rfl dX3_isLike_16 ?_
    refine lv_icmp_ne (tgt := 34) hx hb dX3_isLike_19 (by decide) (fun c2 => ?_) (fun c2 => ?_)
    · replace hR := ifn c2 hR
      refine lv_iconst (v := 0) hx hb dX3_isLike_34 (by decide) ?_
      rw [← hQ]
      exact end_i hX hB hA3 rfl rfl (by obtain rfl := hR; exact ⟨rfl, Or.inl rfl, rfl⟩) (Nat.le_of_ble_eq_true rfl) (Nat.le_of_ble_eq_true rfl) dX3_isLike_35
    · replace hR := ifp c2 hR
      refine lv_aload_n hx hb dX3_isLike_22 rfl (lv_at hl 0 rfl) ?_
      refine lv_aload_n hx hb dX3_isLike_23 rfl (lv_at hl 1 rfl) ?_
      obtain ⟨x4, hd3⟩ := ex1 (D_X3_countUnlike r q f i j)
      replace hR := bnd1_use hd3 hR
      refine call_V (n := 1) (As := [.ref (a (6 + 2 * j))]) (rest := []) hX hB (k_X3_countUnlike κ l a r q f i j hi hj x4 hd3) ⟨rfl, by decide, by decide, by decide +kernel⟩ wm_2_48 wm_2_49 wm_2_50 wm_1_2 wm_2_51 ⟨Nat.le_of_ble_eq_true rfl, Nat.le_of_ble_eq_true rfl⟩ ⟨Nat.le_of_ble_eq_true rfl, Nat.le_of_ble_eq_true rfl⟩ (cwG (i := i) hi) rfl rfl rfl hl.1 rfl (Nat.le_of_ble_eq_true rfl) dX3_isLike_24 (fun o w' H locs hp hB => ?_)
      obtain ⟨rfl, rfl⟩ := hp
      refine W.eq (g2 := F0 m 27 ls [.int x4]) rfl ?_
      refine lv_if_ne (tgt := 34) hx hb dX3_isLike_27 (by decide) (fun c5 => ?_) (fun c5 => ?_)
      · replace hR := ifn c5 hR
        refine lv_iconst (v := 0) hx hb dX3_isLike_34 (by decide) ?_
        rw [← hQ]
        exact end_i hX hB hA3 rfl rfl (by obtain rfl := hR; exact ⟨rfl, Or.inl rfl, rfl⟩) (Nat.le_of_ble_eq_true rfl) (Nat.le_of_ble_eq_true rfl) dX3_isLike_35
      · replace hR := ifp c5 hR
        refine lv_iconst (v := 1) hx hb dX3_isLike_30 (by decide) ?_
        refine lv_goto (tgt := 35) hx hb dX3_isLike_31 (by decide) ?_
        rw [← hQ]
        exact end_i hX hB hA3 rfl rfl (by obtain rfl := hR; exact ⟨rfl, Or.inr rfl, rfl⟩) (Nat.le_of_ble_eq_true rfl) (Nat.le_of_ble_eq_true rfl) dX3_isLike_35
noncomputable def D_X3_isWithin_13 (r : Nat → Int32) (q : Nat → Int32) (f : Nat → Nat → Int64) (i : Nat) (p0 : Int64) (lb2 : Int32 → Int32) (y3_2 : Int32) (nn : Nat) : Int32 → Int32 := @Nat.rec (fun _ => Int32 → Int32) (fun _ => default) (fun _ lb13 (y4_13 : Int32) => (if (r (2 * i + 1)) ≤ y4_13 then (lb2 (y3_2 + 1)) else bnd1 (D_X3_get r q f i y3_2 y4_13) (fun (x46 : Int64) => nm ((if 0 < x46 then x46 else -x46) : Int64) (fun (t47 : Int64) => (if (lg_cmp t47 p0) ≤ 0 then (lb13 (y4_13 + 1)) else 0))))) nn
theorem D_X3_isWithin_13_s {r : Nat → Int32} {q : Nat → Int32} {f : Nat → Nat → Int64} {i : Nat} {p0 : Int64} {lb2 : Int32 → Int32} {y3_2 : Int32} {nn : Nat} {y4_13 : Int32} : D_X3_isWithin_13 r q f i p0 lb2 y3_2 (nn + 1) y4_13 = (if (r (2 * i + 1)) ≤ y4_13 then (lb2 (y3_2 + 1)) else bnd1 (D_X3_get r q f i y3_2 y4_13) (fun (x46 : Int64) => nm ((if 0 < x46 then x46 else -x46) : Int64) (fun (t47 : Int64) => (if (lg_cmp t47 p0) ≤ 0 then ((D_X3_isWithin_13 r q f i p0 lb2 y3_2 nn) (y4_13 + 1)) else 0)))) := rfl
noncomputable def D_X3_isWithin_2 (r : Nat → Int32) (q : Nat → Int32) (f : Nat → Nat → Int64) (i : Nat) (p0 : Int64) (nn : Nat) : Int32 → Int32 := @Nat.rec (fun _ => Int32 → Int32) (fun _ => default) (fun _ lb2 (y3_2 : Int32) => (if (r (2 * i)) ≤ y3_2 then 1 else (D_X3_isWithin_13 r q f i p0 lb2 y3_2 (gap (r (2 * i + 1)) 0 + 1) 0))) nn
theorem D_X3_isWithin_2_s {r : Nat → Int32} {q : Nat → Int32} {f : Nat → Nat → Int64} {i : Nat} {p0 : Int64} {nn : Nat} {y3_2 : Int32} : D_X3_isWithin_2 r q f i p0 (nn + 1) y3_2 = (if (r (2 * i)) ≤ y3_2 then 1 else (D_X3_isWithin_13 r q f i p0 (D_X3_isWithin_2 r q f i p0 nn) y3_2 (gap (r (2 * i + 1)) 0 + 1) 0)) := rfl
noncomputable def D_X3_isWithin (r : Nat → Int32) (q : Nat → Int32) (f : Nat → Nat → Int64) (i : Nat) (p0 : Int64) : Int32 := (D_X3_isWithin_2 r q f i p0 (gap (r (2 * i)) 0 + 1) 0)
theorem D_X3_isWithin_s {r : Nat → Int32} {q : Nat → Int32} {f : Nat → Nat → Int64} {i : Nat} {p0 : Int64} : D_X3_isWithin r q f i p0 = (D_X3_isWithin_2 r q f i p0 (gap (r (2 * i)) 0 + 1) 0) := rfl
set_option maxHeartbeats 4000000 in
set_option maxRecDepth 100000 in
theorem k_X3_isWithin (κ : Kt) (l : Launch) (a : Nat → Nat) (r q : Nat → Int32) (f : Nat → Nat → Int64) (i : Nat) (p0 : Int64) (hi : i < 15) (o_x : Int32) (hR : D_X3_isWithin r q f i p0 = o_x) : CM κ l yX3_isWithin cX3_isWithin 5 (some .boolean) 1 22 0 0 [.ref (a (6 + 2 * i)), .long p0] (cw κ a r q f) (fun o w' => o = some (.int o_x) ∧ (o_x = 0 ∨ o_x = 1) ∧ w' = cw κ a r q f) := by
  refine CM_begin (plainFor_of_name (by decide)) (Nat.le_of_ble_eq_true rfl) ?_
  intro p e s m args below meth c A Q hX hnm hA3 hQ hB ls hl
  have hx := hX.1.1
  have hb := hX.1.2.1
  have hl : lv_has ls 5 [(0, .ref (a (6 + 2 * i))), (1, .long p0)] := hl
  replace hR := (D_X3_isWithin_s).symm.trans hR
  refine lv_iconst (v := 0) hx hb dX3_isWithin_0 (by decide) ?_
  refine lv_istore_n (lv' := [(3, .int 0), (0, .ref (a (6 + 2 * i))), (1, .long p0)]) hx hb dX3_isWithin_1 rfl hl (by decide) rfl (fun ls hl => ?_)
  have lp2 : ∀ (nn2 : Nat) (y3_2 : Int32) (H : Heap) (locs : List Loc), gap (r (2 * i)) y3_2 < nn2 → D_X3_isWithin_2 r q f i p0 nn2 y3_2 = o_x → Bd κ A s (cw κ a r q f) H locs → ∀ ls : Array Slot, lv_has ls 5 [(3, .int y3_2), (0, .ref (a (6 + 2 * i))), (1, .long p0)] → W p l e (Rm 1 22 0 0) s m args below meth c H locs 0 0 Q (F0 m 2 ls []) := by
    intro nn2
    induction nn2 with
    | zero => intro y3_2 H locs hμ; exact absurd hμ (Nat.not_lt_zero _)
    | succ nn2 ih2 =>
      intro y3_2 H locs hμ2 hR hB ls hl
      replace hR := (D_X3_isWithin_2_s).symm.trans hR
      refine lv_iload_n hx hb dX3_isWithin_2 rfl (lv_at hl 0 rfl) ?_
      refine lv_aload_n hx hb dX3_isWithin_3 rfl (lv_at hl 1 rfl) ?_
      refine gf hX hB (cwG (i := i) hi) rfl in3 1 (by decide) wm_1_46 rfl rfl dX3_isWithin_4 ?_
      refine lv_icmp_ge (tgt := 51) hx hb dX3_isWithin_7 (by decide) (fun c33 => ?_) (fun c33 => ?_)
      · replace hR := ifp c33 hR
        refine lv_iconst (v := 1) hx hb dX3_isWithin_51 (by decide) ?_
        rw [← hQ]
        exact end_i hX hB hA3 rfl rfl (by obtain rfl := hR; exact ⟨rfl, Or.inr rfl, rfl⟩) (Nat.le_of_ble_eq_true rfl) (Nat.le_of_ble_eq_true rfl) dX3_isWithin_52
      · replace hR := ifn c33 hR
        refine lv_iconst (v := 0) hx hb dX3_isWithin_10 (by decide) ?_
        refine lv_istore (lv' := [(4, .int 0), (3, .int y3_2), (0, .ref (a (6 + 2 * i))), (1, .long p0)]) hx hb dX3_isWithin_11 hl (by decide) rfl (fun ls hl => ?_)
        have lp13 : ∀ (nn13 : Nat) (y4_13 : Int32) (H : Heap) (locs : List Loc), gap (r (2 * i + 1)) y4_13 < nn13 → D_X3_isWithin_13 r q f i p0 (D_X3_isWithin_2 r q f i p0 nn2) y3_2 nn13 y4_13 = o_x → Bd κ A s (cw κ a r q f) H locs → ∀ ls : Array Slot, lv_has ls 5 [(4, .int y4_13), (3, .int y3_2), (0, .ref (a (6 + 2 * i))), (1, .long p0)] → W p l e (Rm 1 22 0 0) s m args below meth c H locs 0 0 Q (F0 m 13 ls []) := by
          intro nn13
          induction nn13 with
          | zero => intro y4_13 H locs hμ; exact absurd hμ (Nat.not_lt_zero _)
          | succ nn13 ih13 =>
            intro y4_13 H locs hμ13 hR hB ls hl
            replace hR := (D_X3_isWithin_13_s).symm.trans hR
            refine lv_iload hx hb dX3_isWithin_13 (lv_at hl 0 rfl) ?_
            refine lv_aload_n hx hb dX3_isWithin_15 rfl (lv_at hl 2 rfl) ?_
            refine gf hX hB (cwG (i := i) hi) rfl in3 2 (by decide) wm_1_52 rfl rfl dX3_isWithin_16 ?_
            refine lv_icmp_ge (tgt := 45) hx hb dX3_isWithin_19 (by decide) (fun c44 => ?_) (fun c44 => ?_)
            · replace hR := ifp c44 hR
              refine lv_iinc (v := y3_2 + 1) (lv' := [(3, .int (y3_2 + 1)), (4, .int y4_13), (0, .ref (a (6 + 2 * i))), (1, .long p0)]) hx hb dX3_isWithin_45 hl (k := 1) rfl rfl (by decide) rfl (fun ls hl => ?_)
              refine lv_goto (tgt := 2) hx hb dX3_isWithin_48 (by decide) ?_
              exact ih2 (y3_2 + 1) _ _  (gap_step c33 hμ2) hR hB _ (lv_sub hl [0, 2, 3] rfl)
            · replace hR := ifn c44 hR
              refine lv_aload_n hx hb dX3_isWithin_22 rfl (lv_at hl 2 rfl) ?_
              refine lv_iload_n hx hb dX3_isWithin_23 rfl (lv_at hl 1 rfl) ?_
              refine lv_iload hx hb dX3_isWithin_24 (lv_at hl 0 rfl) ?_
              obtain ⟨x46, hd45⟩ := ex1 (D_X3_get r q f i y3_2 y4_13)
              replace hR := bnd1_use hd45 hR
              refine call_V (n := 2) (As := [.int y3_2, .int y4_13]) (rest := []) hX hB (k_X3_get κ l a r q f i y3_2 y4_13 hi x46 hd45) ⟨rfl, by decide, by decide, by decide +kernel⟩ wm_2_7 wm_1_187 wm_1_188 wm_1_2 wm_1_189 ⟨Nat.le_of_ble_eq_true rfl, Nat.le_of_ble_eq_true rfl⟩ ⟨Nat.le_of_ble_eq_true rfl, Nat.le_of_ble_eq_true rfl⟩ (cwG (i := i) hi) rfl rfl rfl hl.1 rfl (Nat.le_of_ble_eq_true rfl) dX3_isWithin_26 (fun o w' H locs hp hB => ?_)
              obtain ⟨rfl, rfl⟩ := hp
              refine W.eq (g2 := F0 m 29 ls [.long x46]) rfl ?_
              refine va_mabs_long hx hb (by rw [hX.1.2.2.1]; exact hl.1.symm) hX.1.2.2.2.1 (hX.1.2.2.2.2 _ wm_2_31) (hX.1.2.2.2.2 _ wm_1_237) (hX.1.2.2.2.2 _ wm_1_14) (hX.1.2.2.2.2 _ wm_1_238) (Nat.le_of_ble_eq_true rfl) (Nat.le_of_ble_eq_true rfl) (Nat.le_of_ble_eq_true rfl) (Nat.le_of_ble_eq_true rfl) dX3_isWithin_29 ?_
              refine lv_topl (fun t47 et47 => ?_)
              replace hR := nm_use et47 hR
              refine lv_lload_n hx hb dX3_isWithin_32 rfl (lv_at hl 3 rfl) ?_
              refine W.lcmp hx hb dX3_isWithin_33 ?_
              refine lv_if_le (tgt := 39) hx hb dX3_isWithin_34 (by decide) (fun c48 => ?_) (fun c48 => ?_)
              · replace hR := ifp c48 hR
                refine lv_iinc (v := y4_13 + 1) (lv' := [(4, .int (y4_13 + 1)), (3, .int y3_2), (0, .ref (a (6 + 2 * i))), (1, .long p0)]) hx hb dX3_isWithin_39 hl (k := 0) rfl rfl (by decide) rfl (fun ls hl => ?_)
                refine lv_goto (tgt := 13) hx hb dX3_isWithin_42 (by decide) ?_
                exact ih13 (y4_13 + 1) _ _  (gap_step c44 hμ13) hR hB _ hl
              · replace hR := ifn c48 hR
                refine lv_iconst (v := 0) hx hb dX3_isWithin_37 (by decide) ?_
                rw [← hQ]
                exact end_i hX hB hA3 rfl rfl (by obtain rfl := hR; exact ⟨rfl, Or.inl rfl, rfl⟩) (Nat.le_of_ble_eq_true rfl) (Nat.le_of_ble_eq_true rfl) dX3_isWithin_38
        exact lp13 _ 0 _ _  (Nat.lt_succ_self _) hR hB _ hl
  exact lp2 _ 0 _ _  (Nat.lt_succ_self _) hR hB _ hl
noncomputable def D_X3_mix_37 (r : Nat → Int32) (q : Nat → Int32) (f : Nat → Nat → Int64) (i : Nat) (lb25 : Int32 → Int64 → Int64) (y5_25 : Int32) (nn : Nat) : Int32 → Int64 → Int64 := @Nat.rec (fun _ => Int32 → Int64 → Int64) (fun _ _ => default) (fun _ lb37 (y6_37 : Int32) (y3_37 : Int64) => (if (r (2 * i + 1)) ≤ y6_37 then (lb25 (y5_25 + 1) y3_37) else bnd1 (D_X3_get r q f i y5_25 y6_37) (fun (x30 : Int64) => (lb37 (y6_37 + 1) ((y3_37 * 31) + x30))))) nn
theorem D_X3_mix_37_s {r : Nat → Int32} {q : Nat → Int32} {f : Nat → Nat → Int64} {i : Nat} {lb25 : Int32 → Int64 → Int64} {y5_25 : Int32} {nn : Nat} {y6_37 : Int32} {y3_37 : Int64} : D_X3_mix_37 r q f i lb25 y5_25 (nn + 1) y6_37 y3_37 = (if (r (2 * i + 1)) ≤ y6_37 then (lb25 (y5_25 + 1) y3_37) else bnd1 (D_X3_get r q f i y5_25 y6_37) (fun (x30 : Int64) => ((D_X3_mix_37 r q f i lb25 y5_25 nn) (y6_37 + 1) ((y3_37 * 31) + x30)))) := rfl
noncomputable def D_X3_mix_25 (r : Nat → Int32) (q : Nat → Int32) (f : Nat → Nat → Int64) (i : Nat) (nn : Nat) : Int32 → Int64 → Int64 := @Nat.rec (fun _ => Int32 → Int64 → Int64) (fun _ _ => default) (fun _ lb25 (y5_25 : Int32) (y3_25 : Int64) => (if (r (2 * i)) ≤ y5_25 then y3_25 else (D_X3_mix_37 r q f i lb25 y5_25 (gap (r (2 * i + 1)) 0 + 1) 0 y3_25))) nn
theorem D_X3_mix_25_s {r : Nat → Int32} {q : Nat → Int32} {f : Nat → Nat → Int64} {i : Nat} {nn : Nat} {y5_25 : Int32} {y3_25 : Int64} : D_X3_mix_25 r q f i (nn + 1) y5_25 y3_25 = (if (r (2 * i)) ≤ y5_25 then y3_25 else (D_X3_mix_37 r q f i (D_X3_mix_25 r q f i nn) y5_25 (gap (r (2 * i + 1)) 0 + 1) 0 y3_25)) := rfl
noncomputable def D_X3_mix (r : Nat → Int32) (q : Nat → Int32) (f : Nat → Nat → Int64) (i : Nat) (p0 : Int64) : Int64 := (D_X3_mix_25 r q f i (gap (r (2 * i)) 0 + 1) 0 ((((p0 * 31) + (((r (2 * i))).toInt64)) * 31) + (((r (2 * i + 1))).toInt64)))
theorem D_X3_mix_s {r : Nat → Int32} {q : Nat → Int32} {f : Nat → Nat → Int64} {i : Nat} {p0 : Int64} : D_X3_mix r q f i p0 = (D_X3_mix_25 r q f i (gap (r (2 * i)) 0 + 1) 0 ((((p0 * 31) + (((r (2 * i))).toInt64)) * 31) + (((r (2 * i + 1))).toInt64))) := rfl
set_option maxHeartbeats 4000000 in
set_option maxRecDepth 100000 in
theorem k_X3_mix (κ : Kt) (l : Launch) (a : Nat → Nat) (r q : Nat → Int32) (f : Nat → Nat → Int64) (i : Nat) (p0 : Int64) (hi : i < 15) (o_x : Int64) (hR : D_X3_mix r q f i p0 = o_x) : CM κ l yX3_mix cX3_mix 7 (some .long) 1 22 0 0 [.ref (a (6 + 2 * i)), .long p0] (cw κ a r q f) (fun o w' => o = some (.long o_x) ∧ w' = cw κ a r q f) := by
  refine CM_begin (plainFor_of_name (by decide)) (Nat.le_of_ble_eq_true rfl) ?_
  intro p e s m args below meth c A Q hX hnm hA3 hQ hB ls hl
  have hx := hX.1.1
  have hb := hX.1.2.1
  have hl : lv_has ls 7 [(0, .ref (a (6 + 2 * i))), (1, .long p0)] := hl
  replace hR := (D_X3_mix_s).symm.trans hR
  refine lv_lload_n hx hb dX3_mix_0 rfl (lv_at hl 1 rfl) ?_
  refine lv_ldc2 (own := RX3) (v := 31) hx hb hX.1.2.2.2.1 (hX.1.2.2.2.2 _ wm_2_133) dX3_mix_1 ?_
  refine lv_lmul hx hb dX3_mix_4 ?_
  refine lv_aload_n hx hb dX3_mix_5 rfl (lv_at hl 0 rfl) ?_
  refine gf hX hB (cwG (i := i) hi) rfl in3 1 (by decide) wm_1_46 rfl rfl dX3_mix_6 ?_
  refine lv_i2l hx hb dX3_mix_9 rfl ?_
  refine lv_ladd hx hb dX3_mix_10 ?_
  refine lv_ldc2 (own := RX3) (v := 31) hx hb hX.1.2.2.2.1 (hX.1.2.2.2.2 _ wm_2_133) dX3_mix_11 ?_
  refine lv_lmul hx hb dX3_mix_14 ?_
  refine lv_aload_n hx hb dX3_mix_15 rfl (lv_at hl 0 rfl) ?_
  refine gf hX hB (cwG (i := i) hi) rfl in3 2 (by decide) wm_1_52 rfl rfl dX3_mix_16 ?_
  refine lv_i2l hx hb dX3_mix_19 rfl ?_
  refine lv_ladd hx hb dX3_mix_20 ?_
  refine lv_lstore_n (lv' := [(3, .long ((((p0 * 31) + (((r (2 * i))).toInt64)) * 31) + (((r (2 * i + 1))).toInt64))), (0, .ref (a (6 + 2 * i))), (1, .long p0)]) hx hb dX3_mix_21 rfl hl (by decide) rfl (fun ls hl => ?_)
  refine lv_iconst (v := 0) hx hb dX3_mix_22 (by decide) ?_
  refine lv_istore (lv' := [(5, .int 0), (3, .long ((((p0 * 31) + (((r (2 * i))).toInt64)) * 31) + (((r (2 * i + 1))).toInt64))), (0, .ref (a (6 + 2 * i))), (1, .long p0)]) hx hb dX3_mix_23 hl (by decide) rfl (fun ls hl => ?_)
  have lp25 : ∀ (nn25 : Nat) (y5_25 : Int32) (y3_25 : Int64) (H : Heap) (locs : List Loc), gap (r (2 * i)) y5_25 < nn25 → D_X3_mix_25 r q f i nn25 y5_25 y3_25 = o_x → Bd κ A s (cw κ a r q f) H locs → ∀ ls : Array Slot, lv_has ls 7 [(5, .int y5_25), (3, .long y3_25), (0, .ref (a (6 + 2 * i))), (1, .long p0)] → W p l e (Rm 1 22 0 0) s m args below meth c H locs 0 0 Q (F0 m 25 ls []) := by
    intro nn25
    induction nn25 with
    | zero => intro y5_25 y3_25 H locs hμ; exact absurd hμ (Nat.not_lt_zero _)
    | succ nn25 ih25 =>
      intro y5_25 y3_25 H locs hμ25 hR hB ls hl
      replace hR := (D_X3_mix_25_s).symm.trans hR
      refine lv_iload hx hb dX3_mix_25 (lv_at hl 0 rfl) ?_
      refine lv_aload_n hx hb dX3_mix_27 rfl (lv_at hl 2 rfl) ?_
      refine gf hX hB (cwG (i := i) hi) rfl in3 1 (by decide) wm_1_46 rfl rfl dX3_mix_28 ?_
      refine lv_icmp_ge (tgt := 73) hx hb dX3_mix_31 (by decide) (fun c21 => ?_) (fun c21 => ?_)
      · replace hR := ifp c21 hR
        refine lv_lload_n hx hb dX3_mix_73 rfl (lv_at hl 1 rfl) ?_
        rw [← hQ]
        exact end_l hX hB hA3 rfl (by obtain rfl := hR; exact ⟨rfl, rfl⟩) (Nat.le_of_ble_eq_true rfl) (Nat.le_of_ble_eq_true rfl) dX3_mix_74
      · replace hR := ifn c21 hR
        refine lv_iconst (v := 0) hx hb dX3_mix_34 (by decide) ?_
        refine lv_istore (lv' := [(6, .int 0), (5, .int y5_25), (3, .long y3_25), (0, .ref (a (6 + 2 * i))), (1, .long p0)]) hx hb dX3_mix_35 hl (by decide) rfl (fun ls hl => ?_)
        have lp37 : ∀ (nn37 : Nat) (y6_37 : Int32) (y3_37 : Int64) (H : Heap) (locs : List Loc), gap (r (2 * i + 1)) y6_37 < nn37 → D_X3_mix_37 r q f i (D_X3_mix_25 r q f i nn25) y5_25 nn37 y6_37 y3_37 = o_x → Bd κ A s (cw κ a r q f) H locs → ∀ ls : Array Slot, lv_has ls 7 [(6, .int y6_37), (5, .int y5_25), (3, .long y3_37), (0, .ref (a (6 + 2 * i))), (1, .long p0)] → W p l e (Rm 1 22 0 0) s m args below meth c H locs 0 0 Q (F0 m 37 ls []) := by
          intro nn37
          induction nn37 with
          | zero => intro y6_37 y3_37 H locs hμ; exact absurd hμ (Nat.not_lt_zero _)
          | succ nn37 ih37 =>
            intro y6_37 y3_37 H locs hμ37 hR hB ls hl
            replace hR := (D_X3_mix_37_s).symm.trans hR
            refine lv_iload hx hb dX3_mix_37 (lv_at hl 0 rfl) ?_
            refine lv_aload_n hx hb dX3_mix_39 rfl (lv_at hl 3 rfl) ?_
            refine gf hX hB (cwG (i := i) hi) rfl in3 2 (by decide) wm_1_52 rfl rfl dX3_mix_40 ?_
            refine lv_icmp_ge (tgt := 67) hx hb dX3_mix_43 (by decide) (fun c28 => ?_) (fun c28 => ?_)
            · replace hR := ifp c28 hR
              refine lv_iinc (v := y5_25 + 1) (lv' := [(5, .int (y5_25 + 1)), (6, .int y6_37), (3, .long y3_37), (0, .ref (a (6 + 2 * i))), (1, .long p0)]) hx hb dX3_mix_67 hl (k := 1) rfl rfl (by decide) rfl (fun ls hl => ?_)
              refine lv_goto (tgt := 25) hx hb dX3_mix_70 (by decide) ?_
              exact ih25 (y5_25 + 1) y3_37 _ _  (gap_step c21 hμ25) hR hB _ (lv_sub hl [0, 2, 3, 4] rfl)
            · replace hR := ifn c28 hR
              refine lv_lload_n hx hb dX3_mix_46 rfl (lv_at hl 2 rfl) ?_
              refine lv_ldc2 (own := RX3) (v := 31) hx hb hX.1.2.2.2.1 (hX.1.2.2.2.2 _ wm_2_133) dX3_mix_47 ?_
              refine lv_lmul hx hb dX3_mix_50 ?_
              refine lv_aload_n hx hb dX3_mix_51 rfl (lv_at hl 3 rfl) ?_
              refine lv_iload hx hb dX3_mix_52 (lv_at hl 1 rfl) ?_
              refine lv_iload hx hb dX3_mix_54 (lv_at hl 0 rfl) ?_
              obtain ⟨x30, hd29⟩ := ex1 (D_X3_get r q f i y5_25 y6_37)
              replace hR := bnd1_use hd29 hR
              refine call_V (n := 2) (As := [.int y5_25, .int y6_37]) (rest := [.long (y3_37 * 31)]) hX hB (k_X3_get κ l a r q f i y5_25 y6_37 hi x30 hd29) ⟨rfl, by decide, by decide, by decide +kernel⟩ wm_2_7 wm_1_187 wm_1_188 wm_1_2 wm_1_189 ⟨Nat.le_of_ble_eq_true rfl, Nat.le_of_ble_eq_true rfl⟩ ⟨Nat.le_of_ble_eq_true rfl, Nat.le_of_ble_eq_true rfl⟩ (cwG (i := i) hi) rfl rfl rfl hl.1 rfl (Nat.le_of_ble_eq_true rfl) dX3_mix_56 (fun o w' H locs hp hB => ?_)
              obtain ⟨rfl, rfl⟩ := hp
              refine W.eq (g2 := F0 m 59 ls [.long x30, .long (y3_37 * 31)]) rfl ?_
              refine lv_ladd hx hb dX3_mix_59 ?_
              refine lv_lstore_n (lv' := [(3, .long ((y3_37 * 31) + x30)), (6, .int y6_37), (5, .int y5_25), (0, .ref (a (6 + 2 * i))), (1, .long p0)]) hx hb dX3_mix_60 rfl hl (by decide) rfl (fun ls hl => ?_)
              refine lv_iinc (v := y6_37 + 1) (lv' := [(6, .int (y6_37 + 1)), (3, .long ((y3_37 * 31) + x30)), (5, .int y5_25), (0, .ref (a (6 + 2 * i))), (1, .long p0)]) hx hb dX3_mix_61 hl (k := 1) rfl rfl (by decide) rfl (fun ls hl => ?_)
              refine lv_goto (tgt := 37) hx hb dX3_mix_64 (by decide) ?_
              exact ih37 (y6_37 + 1) ((y3_37 * 31) + x30) _ _  (gap_step c28 hμ37) hR hB _ (lv_sub hl [0, 2, 1, 3, 4] rfl)
        exact lp37 _ 0 y3_25 _ _  (Nat.lt_succ_self _) hR hB _ hl
  exact lp25 _ 0 ((((p0 * 31) + (((r (2 * i))).toInt64)) * 31) + (((r (2 * i + 1))).toInt64)) _ _  (Nat.lt_succ_self _) hR hB _ hl
